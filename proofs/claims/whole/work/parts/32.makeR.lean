/-! THE REFERENCE'S MAKER -/
theorem fm_X9_7 : Cond.fieldLink RX9 7 (TX9 1).1 (TX9 1).2.1 (TX9 1).2.2.1 ∈ TB := tb_in 1042 (by decide +kernel) rfl
theorem fm_X9_13 : Cond.fieldLink RX9 13 (TX9 2).1 (TX9 2).2.1 (TX9 2).2.2.1 ∈ TB := tb_in 1043 (by decide +kernel) rfl
theorem fm_X9_16 : Cond.fieldLink RX9 16 (TX9 3).1 (TX9 3).2.1 (TX9 3).2.2.1 ∈ TB := tb_in 1044 (by decide +kernel) rfl
theorem fm_X9_19 : Cond.fieldLink RX9 19 (TX9 5).1 (TX9 5).2.1 (TX9 5).2.2.1 ∈ TB := tb_in 1046 (by decide +kernel) rfl
theorem fm_X9_22 : Cond.fieldLink RX9 22 (TX9 7).1 (TX9 7).2.1 (TX9 7).2.2.1 ∈ TB := tb_in 1048 (by decide +kernel) rfl
theorem fm_X9_25 : Cond.fieldLink RX9 25 (TX9 9).1 (TX9 9).2.1 (TX9 9).2.2.1 ∈ TB := tb_in 1050 (by decide +kernel) rfl
theorem fm_X9_28 : Cond.fieldLink RX9 28 (TX9 10).1 (TX9 10).2.1 (TX9 10).2.2.1 ∈ TB := tb_in 1051 (by decide +kernel) rfl
theorem fm_X9_31 : Cond.fieldLink RX9 31 (TX9 18).1 (TX9 18).2.1 (TX9 18).2.2.1 ∈ TB := tb_in 1059 (by decide +kernel) rfl
theorem fm_X9_34 : Cond.fieldLink RX9 34 (TX9 19).1 (TX9 19).2.1 (TX9 19).2.2.1 ∈ TB := tb_in 1060 (by decide +kernel) rfl
theorem fm_X9_37 : Cond.fieldLink RX9 37 (TX9 20).1 (TX9 20).2.1 (TX9 20).2.2.1 ∈ TB := tb_in 1061 (by decide +kernel) rfl
theorem fm_X9_40 : Cond.fieldLink RX9 40 (TX9 21).1 (TX9 21).2.1 (TX9 21).2.2.1 ∈ TB := tb_in 1062 (by decide +kernel) rfl
theorem fm_X9_43 : Cond.fieldLink RX9 43 (TX9 22).1 (TX9 22).2.1 (TX9 22).2.2.1 ∈ TB := tb_in 1063 (by decide +kernel) rfl
theorem fm_X9_46 : Cond.fieldLink RX9 46 (TX9 27).1 (TX9 27).2.1 (TX9 27).2.2.1 ∈ TB := tb_in 1068 (by decide +kernel) rfl
theorem fm_X9_49 : Cond.fieldLink RX9 49 (TX9 28).1 (TX9 28).2.1 (TX9 28).2.2.1 ∈ TB := tb_in 1069 (by decide +kernel) rfl
theorem fm_X9_52 : Cond.fieldLink RX9 52 (TX9 32).1 (TX9 32).2.1 (TX9 32).2.2.1 ∈ TB := tb_in 1073 (by decide +kernel) rfl
theorem fm_X9_55 : Cond.fieldLink RX9 55 (TX9 33).1 (TX9 33).2.1 (TX9 33).2.2.1 ∈ TB := tb_in 1074 (by decide +kernel) rfl
theorem fm_X9_58 : Cond.fieldLink RX9 58 (TX9 39).1 (TX9 39).2.1 (TX9 39).2.2.1 ∈ TB := tb_in 1080 (by decide +kernel) rfl
theorem fm_X9_61 : Cond.fieldLink RX9 61 (TX9 41).1 (TX9 41).2.1 (TX9 41).2.2.1 ∈ TB := tb_in 1082 (by decide +kernel) rfl
theorem fm_X9_64 : Cond.fieldLink RX9 64 (TX9 42).1 (TX9 42).2.1 (TX9 42).2.2.1 ∈ TB := tb_in 1083 (by decide +kernel) rfl
theorem fm_X9_67 : Cond.fieldLink RX9 67 (TX9 45).1 (TX9 45).2.1 (TX9 45).2.2.1 ∈ TB := tb_in 1086 (by decide +kernel) rfl
theorem fm_X9_70 : Cond.fieldLink RX9 70 (TX9 47).1 (TX9 47).2.1 (TX9 47).2.2.1 ∈ TB := tb_in 1088 (by decide +kernel) rfl
theorem fm_X9_73 : Cond.fieldLink RX9 73 (TX9 8).1 (TX9 8).2.1 (TX9 8).2.2.1 ∈ TB := tb_in 1049 (by decide +kernel) rfl
theorem mw_X9_77 : MW RX9 77 yX9_text cX9_text 3 (some .int) 0 := ⟨tb_in 997 (by decide +kernel) rfl, tb_in 994 (by decide +kernel) rfl, tb_in 995 (by decide +kernel) rfl, tb_in 996 (by decide +kernel) rfl, tb_in 89 (by decide +kernel) rfl, by decide, by decide, by decide +kernel⟩
def rq0 : Mem := fun k j => if k = 9 then ([(-1), (-1), (-1), (-1)] : List Int32).getD j 0 else if k = 12 then ([103, 114, 111, 119, 115, 32, 52, 32, 43, 32, 111, 105, 108, 0, 0, 0, 0, 0, 0, 0, 0, 0, 0, 0, 0, 0, 0, 0, 0, 0, 0, 0, 0, 0, 0, 0, 0] : List Int32).getD j 0 else 0
def rx0 (z : Nat) (ac : Nat → ClassId) : Nat → va_E := fun q => if q = 0 then .inr (9, [.int 0, .ref ((z + 80) + 1), .ref ((z + 80) + 2), .ref ((z + 80) + 3), .int 0, .ref ((z + 80) + 4), .int 0, .ref ((z + 80) + 5), .int 0, .ref ((z + 80) + 6), .ref ((z + 80) + 7), .int 0, .int 0, .int 0, .int 0, .int 0, .int 0, .int 0, .ref ((z + 80) + 8), .ref ((z + 80) + 9), .ref ((z + 80) + 10), .ref ((z + 80) + 11), .null, .int 0, .int 0, .int 0, .int 0, .null, .null, .int 0, .int 0, .int 0, .null, .null, .int 0, .int 0, .int 0, .int 0, .int 0, .null, .int 0, .null, .null, .int 0, .int 0, .null, .int 0, .null]) else .inl (ac 0, alR q, .inl (rq0 q))
def rq1 : Mem := fun k j => if k = 9 then ([(-1), (-1), (-1), (-1)] : List Int32).getD j 0 else if k = 12 then ([103, 114, 111, 119, 115, 32, 52, 32, 43, 32, 111, 105, 108, 32, 59, 32, 116, 114, 105, 109, 115, 32, 50, 32, 59, 32, 115, 104, 97, 109, 101, 115, 32, 49, 48, 32, 59] : List Int32).getD j 0 else if k = 13 then ([103, 114, 111, 119, 115, 32, 32, 32, 116, 114, 105, 109, 115, 32, 0, 0, 0, 0, 0, 0, 0, 0, 0, 0, 0, 0, 0, 0, 0, 0, 0, 0, 0, 0, 0, 0, 0, 0, 0, 0, 0, 0, 0, 0, 0, 0, 0, 0, 0, 0, 0, 0, 0, 0, 0, 0, 0, 0, 0, 0, 0, 0, 0, 0, 0, 0, 0, 0, 0, 0, 0, 0, 0, 0, 0, 0, 0, 0, 0, 0, 0, 0, 0, 0, 0, 0, 0, 0, 0, 0, 0, 0, 0, 0, 0, 0] : List Int32).getD j 0 else 0
def rx1 (z : Nat) (ac : Nat → ClassId) : Nat → va_E := fun q => if q = 0 then .inr (9, [.int 0, .ref ((z + 80) + 1), .ref ((z + 80) + 2), .ref ((z + 80) + 3), .int 0, .ref ((z + 80) + 4), .int 0, .ref ((z + 80) + 5), .int 0, .ref ((z + 80) + 6), .ref ((z + 80) + 7), .int 0, .int 0, .int 0, .int 0, .int 0, .int 0, .int 0, .ref ((z + 80) + 8), .ref ((z + 80) + 9), .ref ((z + 80) + 10), .ref ((z + 80) + 11), .ref ((z + 80) + 12), .int 0, .int 0, .int 0, .int 0, .null, .null, .int 0, .int 0, .int 0, .null, .null, .int 0, .int 0, .int 0, .int 0, .int 0, .null, .int 0, .null, .null, .int 0, .int 0, .null, .int 0, .null]) else .inl (ac 0, alR q, .inl (rq1 q))
def rq2 : Mem := fun k j => if k = 9 then ([(-1), (-1), (-1), (-1)] : List Int32).getD j 0 else if k = 12 then ([103, 114, 111, 119, 115, 32, 52, 32, 43, 32, 111, 105, 108, 32, 59, 32, 116, 114, 105, 109, 115, 32, 50, 32, 59, 32, 115, 104, 97, 109, 101, 115, 32, 49, 48, 32, 59] : List Int32).getD j 0 else if k = 13 then ([103, 114, 111, 119, 115, 32, 32, 32, 116, 114, 105, 109, 115, 32, 32, 32, 115, 104, 97, 109, 101, 115, 32, 32, 98, 101, 97, 114, 100, 32, 32, 32, 111, 105, 108, 32, 32, 32, 32, 32, 109, 111, 114, 101, 32, 32, 32, 32, 119, 101, 101, 107, 32, 32, 0, 0, 0, 0, 0, 0, 0, 0, 0, 0, 0, 0, 0, 0, 0, 0, 0, 0, 0, 0, 0, 0, 0, 0, 0, 0, 0, 0, 0, 0, 0, 0, 0, 0, 0, 0, 0, 0, 0, 0, 0, 0] : List Int32).getD j 0 else 0
def rx2 (z : Nat) (ac : Nat → ClassId) : Nat → va_E := fun q => if q = 0 then .inr (9, [.int 0, .ref ((z + 80) + 1), .ref ((z + 80) + 2), .ref ((z + 80) + 3), .int 0, .ref ((z + 80) + 4), .int 0, .ref ((z + 80) + 5), .int 0, .ref ((z + 80) + 6), .ref ((z + 80) + 7), .int 0, .int 0, .int 0, .int 0, .int 0, .int 0, .int 0, .ref ((z + 80) + 8), .ref ((z + 80) + 9), .ref ((z + 80) + 10), .ref ((z + 80) + 11), .ref ((z + 80) + 12), .int 0, .int 0, .int 0, .int 0, .null, .null, .int 0, .int 0, .int 0, .null, .null, .int 0, .int 0, .int 0, .int 0, .int 0, .null, .int 0, .null, .null, .int 0, .int 0, .null, .int 0, .null]) else .inl (ac 0, alR q, .inl (rq2 q))
def rq3 : Mem := fun k j => if k = 9 then ([(-1), (-1), (-1), (-1)] : List Int32).getD j 0 else if k = 12 then ([103, 114, 111, 119, 115, 32, 52, 32, 43, 32, 111, 105, 108, 32, 59, 32, 116, 114, 105, 109, 115, 32, 50, 32, 59, 32, 115, 104, 97, 109, 101, 115, 32, 49, 48, 32, 59] : List Int32).getD j 0 else if k = 13 then ([103, 114, 111, 119, 115, 32, 32, 32, 116, 114, 105, 109, 115, 32, 32, 32, 115, 104, 97, 109, 101, 115, 32, 32, 98, 101, 97, 114, 100, 32, 32, 32, 111, 105, 108, 32, 32, 32, 32, 32, 109, 111, 114, 101, 32, 32, 32, 32, 119, 101, 101, 107, 32, 32, 32, 32, 111, 119, 101, 100, 32, 32, 32, 32, 114, 97, 110, 107, 32, 32, 32, 32, 111, 114, 32, 32, 32, 32, 32, 32, 97, 110, 100, 32, 32, 32, 32, 32, 110, 111, 116, 32, 32, 32, 0, 0] : List Int32).getD j 0 else 0
def rx3 (z : Nat) (ac : Nat → ClassId) : Nat → va_E := fun q => if q = 0 then .inr (9, [.int 0, .ref ((z + 80) + 1), .ref ((z + 80) + 2), .ref ((z + 80) + 3), .int 0, .ref ((z + 80) + 4), .int 0, .ref ((z + 80) + 5), .int 0, .ref ((z + 80) + 6), .ref ((z + 80) + 7), .int 0, .int 0, .int 0, .int 0, .int 0, .int 0, .int 0, .ref ((z + 80) + 8), .ref ((z + 80) + 9), .ref ((z + 80) + 10), .ref ((z + 80) + 11), .ref ((z + 80) + 12), .int 0, .int 0, .int 0, .int 0, .null, .null, .int 0, .int 0, .int 0, .null, .null, .int 0, .int 0, .int 0, .int 0, .int 0, .null, .int 0, .null, .null, .int 0, .int 0, .null, .int 0, .null]) else .inl (ac 0, alR q, .inl (rq3 q))
def rq4 : Mem := fun k j => if k = 5 then ([103, 114, 111, 119, 115, 32, 52, 32, 43, 32, 111, 105, 108, 32, 59, 32, 116, 114, 105, 109, 115, 0, 0, 0, 0, 0, 0, 0, 0, 0, 0, 0, 0, 0, 0, 0, 0, 0, 0, 0, 0, 0, 0, 0, 0, 0, 0, 0, 0, 0, 0, 0, 0, 0, 0, 0, 0, 0, 0, 0, 0, 0, 0, 0, 0, 0, 0, 0, 0, 0, 0, 0, 0, 0, 0, 0, 0, 0, 0, 0, 0, 0, 0, 0, 0, 0, 0, 0, 0, 0, 0, 0, 0, 0, 0, 0, 0, 0, 0, 0, 0, 0, 0, 0, 0, 0, 0, 0, 0, 0, 0, 0, 0, 0, 0, 0, 0, 0, 0, 0, 0, 0, 0, 0, 0, 0, 0, 0, 0, 0, 0, 0, 0, 0, 0, 0, 0, 0, 0, 0, 0, 0, 0, 0, 0, 0, 0, 0, 0, 0, 0, 0, 0, 0, 0, 0, 0, 0, 0, 0] : List Int32).getD j 0 else if k = 9 then ([(-1), (-1), (-1), (-1)] : List Int32).getD j 0 else if k = 12 then ([103, 114, 111, 119, 115, 32, 52, 32, 43, 32, 111, 105, 108, 32, 59, 32, 116, 114, 105, 109, 115, 32, 50, 32, 59, 32, 115, 104, 97, 109, 101, 115, 32, 49, 48, 32, 59] : List Int32).getD j 0 else if k = 13 then ([103, 114, 111, 119, 115, 32, 32, 32, 116, 114, 105, 109, 115, 32, 32, 32, 115, 104, 97, 109, 101, 115, 32, 32, 98, 101, 97, 114, 100, 32, 32, 32, 111, 105, 108, 32, 32, 32, 32, 32, 109, 111, 114, 101, 32, 32, 32, 32, 119, 101, 101, 107, 32, 32, 32, 32, 111, 119, 101, 100, 32, 32, 32, 32, 114, 97, 110, 107, 32, 32, 32, 32, 111, 114, 32, 32, 32, 32, 32, 32, 97, 110, 100, 32, 32, 32, 32, 32, 110, 111, 116, 32, 32, 32, 32, 32] : List Int32).getD j 0 else if k = 0 then ([0, 0, 0, 0, 0, 0, 0, 0, 0, 0, 0, 0, 0, 0, 0, 0, 0, 0, 0, 0, 0, 0, 0, 0, 0, 0, 0, 0, 0, 0, 0, 0, 0, 0, 0, 0, 0, 0, 0, 0, 0, 0, 0, 0, 0, 0, 0, 0] : List Int32).getD j 0 else 0
def rx4 (z : Nat) (ac : Nat → ClassId) : Nat → va_E := fun q => if q = 0 then .inr (9, [.int 0, .ref ((z + 80) + 1), .ref ((z + 80) + 2), .ref ((z + 80) + 3), .int 0, .ref ((z + 80) + 4), .int 0, .ref ((z + 80) + 5), .int 0, .ref ((z + 80) + 6), .ref ((z + 80) + 7), .int 0, .int 0, .int 0, .int 0, .int 0, .int 0, .int 0, .ref ((z + 80) + 8), .ref ((z + 80) + 9), .ref ((z + 80) + 10), .ref ((z + 80) + 11), .ref ((z + 80) + 12), .int 0, .int 0, .int 0, .int 0, .ref ((z + 80) + 13), .ref ((z + 80) + 14), .int 0, .int 0, .int 0, .ref ((z + 80) + 15), .ref ((z + 80) + 16), .int 0, .int 0, .int 0, .int 0, .int 0, .ref ((z + 80) + 17), .int 0, .ref ((z + 80) + 18), .ref ((z + 80) + 19), .int 0, .int 0, .ref ((z + 80) + 20), .int 0, .ref ((z + 80) + 21)]) else .inl (ac 0, alR q, .inl (rq4 q))
def rx5 (z : Nat) (ac : Nat → ClassId) : Nat → va_E := fun q => if q = 0 then .inr (9, [.int 0, .ref ((z + 80) + 1), .ref ((z + 80) + 2), .ref ((z + 80) + 3), .int 0, .ref ((z + 80) + 4), .int 0, .ref ((z + 80) + 5), .int 37, .ref ((z + 80) + 6), .ref ((z + 80) + 7), .int 0, .int 0, .int 0, .int 0, .int 0, .int 0, .int 0, .ref ((z + 80) + 8), .ref ((z + 80) + 9), .ref ((z + 80) + 10), .ref ((z + 80) + 11), .ref ((z + 80) + 12), .int 0, .int 0, .int 0, .int 0, .ref ((z + 80) + 13), .ref ((z + 80) + 14), .int 0, .int 0, .int 0, .ref ((z + 80) + 15), .ref ((z + 80) + 16), .int 0, .int 0, .int 0, .int 0, .int 0, .ref ((z + 80) + 17), .int 0, .ref ((z + 80) + 18), .ref ((z + 80) + 19), .int 0, .int 0, .ref ((z + 80) + 20), .int 0, .ref ((z + 80) + 21)]) else .inl (ac 0, alR q, .inl (rq5 q))
section
variable {p : Program} {l : Launch} {e : Env} {R : Room} {s : State} {m : MethodId} {args : Array Value} {below : List Frame} {meth : Method} {c : Code} {H : Heap} {locs : List Loc} {cells slots : Nat} {Q : State → Prop}
variable {cc : ByteArray} {nL : Nat} {own : String} {ret : Option FieldType} {D : va_G} {ac : Nat → ClassId} {z n idx a : Nat} {w : Nat → va_E} {A : Nat → Prop} {S : SP} {pc : Nat} {ls : Array Slot} {K : Nat} {aK aV : Nat → Nat}
theorem rx_eq {z : Nat} {ac : Nat → ClassId} : ∀ q, q < 22 → ∀ a H, va_at D cls (a, rx5 z ac q) H → va_at D cls (a, Er ac (z + 80) r0 q) H := by
  intro q hq a H
  by_cases h : q = 0
  · subst h
    exact id
  · unfold rx5
    rw [if_neg h, Er_a h]
    exact id
theorem a_X9_0 {K : Nat} (hK : 5 ≤ K) {r : Int32} {σf : Mem} (hT : f_X9_text r0 = some (r, σf)) (he : w 0 = .inr (9, [.int 0, .null, .null, .null, .int 0, .null, .int 0, .null, .int 0, .null, .null, .int 0, .int 0, .int 0, .int 0, .int 0, .int 0, .int 0, .null, .null, .null, .null, .null, .int 0, .int 0, .int 0, .int 0, .null, .null, .int 0, .int 0, .int 0, .null, .null, .int 0, .int 0, .int 0, .int 0, .int 0, .null, .int 0, .null, .null, .int 0, .int 0, .null, .int 0, .null])) : MA l D (z + 80) ac (z, aK, aV) (Ar (z + 80)) yX9_init cX9_init 2 none K 21 2411 [.ref (z + 80 + 0)] 1 w none 22 (Er ac (z + 80) σf) := by
  refine MA.of (fun q hq => by have := hq.1; show z ≤ q; omega) (plainFor_of_name (by decide)) (Nat.le_of_ble_eq_true rfl) ?_
  intro p e s m below meth c args C hin hW ls hl
  replace hl : lv_has ls 2 [(0, .ref (z + 80 + 0))] := hl
  have hS : va_S (Ar (z + 80)) s.heap s.heap [] := va_S.rf
  have hx := C.1.1
  have hb := C.1.2.1
  have hK1 : 1 ≤ K := by omega
  replace hW : Wg D (z + 80) 1 (va_up w 0 (.inr (9, [.int 0, .null, .null, .null, .int 0, .null, .int 0, .null, .int 0, .null, .null, .int 0, .int 0, .int 0, .int 0, .int 0, .int 0, .int 0, .null, .null, .null, .null, .null, .int 0, .int 0, .int 0, .int 0, .null, .null, .int 0, .int 0, .int 0, .null, .null, .int 0, .int 0, .int 0, .int 0, .int 0, .null, .int 0, .null, .null, .int 0, .int 0, .null, .int 0, .null]))) s.heap := ⟨hW.1, fun q hq => by
    unfold va_up
    by_cases h : q = 0
    · subst h
      rw [if_pos rfl, ← he]
      exact hW.2 _ hq
    · rw [if_neg h]
      exact hW.2 _ hq⟩
  refine lv_aload_n (pc := 0) hx hb dX9_init_0 rfl (lv_at hl 0 rfl) ?_
  refine a_obj (pc := 1) C ob_X9 hl.1 (aRoom0 hK1) dX9_init_1 ?_
  refine lv_aload_n (pc := 4) hx hb dX9_init_4 rfl (lv_at hl 0 rfl) ?_
  refine lv_bipush (pc := 5) (v := 6) hx hb dX9_init_5 (by decide) ?_
  refine a_newa (pc := 7) (n := 1) (n1 := 2) (N := 6) C hW hS ai_tb (by decide) (by decide) (by decide) rfl (Nat.le_of_ble_eq_true rfl) (Nat.le_of_ble_eq_true rfl) dX9_init_7 (fun H hW hS => ?_)
  refine a_putF (pc := 9) (k := 0) (ci := 9) C hW hS tyX9 (by decide) rfl ⟨Nat.le_add_right _ _, Nat.add_lt_add_left (by decide) _⟩ rfl lays_X9 tyX9_ok nmX9 1 (by decide) fm_X9_7 rfl hin rfl (x := .ref ((z + 80) + 1)) rfl rfl (Nat.le_of_ble_eq_true rfl) dX9_init_9 (fun H locs hW hS => ?_)
  refine lv_aload_n (pc := 12) hx hb dX9_init_12 rfl (lv_at hl 0 rfl) ?_
  refine lv_bipush (pc := 13) (v := 6) hx hb dX9_init_13 (by decide) ?_
  refine a_newa (pc := 15) (n := 2) (n1 := 3) (N := 6) C hW hS ai_tb (by decide) (by decide) (by decide) rfl (Nat.le_of_ble_eq_true rfl) (Nat.le_of_ble_eq_true rfl) dX9_init_15 (fun H hW hS => ?_)
  refine a_putF (pc := 17) (k := 0) (ci := 9) C hW hS tyX9 (by decide) rfl ⟨Nat.le_add_right _ _, Nat.add_lt_add_left (by decide) _⟩ rfl lays_X9 tyX9_ok nmX9 2 (by decide) fm_X9_13 rfl hin rfl (x := .ref ((z + 80) + 2)) rfl rfl (Nat.le_of_ble_eq_true rfl) dX9_init_17 (fun H locs hW hS => ?_)
  refine lv_aload_n (pc := 20) hx hb dX9_init_20 rfl (lv_at hl 0 rfl) ?_
  refine lv_bipush (pc := 21) (v := 24) hx hb dX9_init_21 (by decide) ?_
  refine a_newa (pc := 23) (n := 3) (n1 := 4) (N := 24) C hW hS ai_tb (by decide) (by decide) (by decide) rfl (Nat.le_of_ble_eq_true rfl) (Nat.le_of_ble_eq_true rfl) dX9_init_23 (fun H hW hS => ?_)
  refine a_putF (pc := 25) (k := 0) (ci := 9) C hW hS tyX9 (by decide) rfl ⟨Nat.le_add_right _ _, Nat.add_lt_add_left (by decide) _⟩ rfl lays_X9 tyX9_ok nmX9 3 (by decide) fm_X9_16 rfl hin rfl (x := .ref ((z + 80) + 3)) rfl rfl (Nat.le_of_ble_eq_true rfl) dX9_init_25 (fun H locs hW hS => ?_)
  refine lv_aload_n (pc := 28) hx hb dX9_init_28 rfl (lv_at hl 0 rfl) ?_
  refine lv_bipush (pc := 29) (v := 48) hx hb dX9_init_29 (by decide) ?_
  refine a_newa (pc := 31) (n := 4) (n1 := 5) (N := 48) C hW hS ai_tb (by decide) (by decide) (by decide) rfl (Nat.le_of_ble_eq_true rfl) (Nat.le_of_ble_eq_true rfl) dX9_init_31 (fun H hW hS => ?_)
  refine a_putF (pc := 33) (k := 0) (ci := 9) C hW hS tyX9 (by decide) rfl ⟨Nat.le_add_right _ _, Nat.add_lt_add_left (by decide) _⟩ rfl lays_X9 tyX9_ok nmX9 5 (by decide) fm_X9_19 rfl hin rfl (x := .ref ((z + 80) + 4)) rfl rfl (Nat.le_of_ble_eq_true rfl) dX9_init_33 (fun H locs hW hS => ?_)
  refine lv_aload_n (pc := 36) hx hb dX9_init_36 rfl (lv_at hl 0 rfl) ?_
  refine lv_sipush (pc := 37) (v := 160) hx hb dX9_init_37 (by decide) ?_
  refine a_newa (pc := 40) (n := 5) (n1 := 6) (N := 160) C hW hS ai_tb (by decide) (by decide) (by decide) rfl (Nat.le_of_ble_eq_true rfl) (Nat.le_of_ble_eq_true rfl) dX9_init_40 (fun H hW hS => ?_)
  refine a_putF (pc := 42) (k := 0) (ci := 9) C hW hS tyX9 (by decide) rfl ⟨Nat.le_add_right _ _, Nat.add_lt_add_left (by decide) _⟩ rfl lays_X9 tyX9_ok nmX9 7 (by decide) fm_X9_22 rfl hin rfl (x := .ref ((z + 80) + 5)) rfl rfl (Nat.le_of_ble_eq_true rfl) dX9_init_42 (fun H locs hW hS => ?_)
  refine lv_aload_n (pc := 45) hx hb dX9_init_45 rfl (lv_at hl 0 rfl) ?_
  refine lv_sipush (pc := 46) (v := 1200) hx hb dX9_init_46 (by decide) ?_
  refine a_newa (pc := 49) (n := 6) (n1 := 7) (N := 1200) C hW hS ai_tb (by decide) (by decide) (by decide) rfl (Nat.le_of_ble_eq_true rfl) (Nat.le_of_ble_eq_true rfl) dX9_init_49 (fun H hW hS => ?_)
  refine a_putF (pc := 51) (k := 0) (ci := 9) C hW hS tyX9 (by decide) rfl ⟨Nat.le_add_right _ _, Nat.add_lt_add_left (by decide) _⟩ rfl lays_X9 tyX9_ok nmX9 9 (by decide) fm_X9_25 rfl hin rfl (x := .ref ((z + 80) + 6)) rfl rfl (Nat.le_of_ble_eq_true rfl) dX9_init_51 (fun H locs hW hS => ?_)
  refine lv_aload_n (pc := 54) hx hb dX9_init_54 rfl (lv_at hl 0 rfl) ?_
  refine lv_bipush (pc := 55) (v := 24) hx hb dX9_init_55 (by decide) ?_
  refine a_newa (pc := 57) (n := 7) (n1 := 8) (N := 24) C hW hS ai_tb (by decide) (by decide) (by decide) rfl (Nat.le_of_ble_eq_true rfl) (Nat.le_of_ble_eq_true rfl) dX9_init_57 (fun H hW hS => ?_)
  refine a_putF (pc := 59) (k := 0) (ci := 9) C hW hS tyX9 (by decide) rfl ⟨Nat.le_add_right _ _, Nat.add_lt_add_left (by decide) _⟩ rfl lays_X9 tyX9_ok nmX9 10 (by decide) fm_X9_28 rfl hin rfl (x := .ref ((z + 80) + 7)) rfl rfl (Nat.le_of_ble_eq_true rfl) dX9_init_59 (fun H locs hW hS => ?_)
  refine lv_aload_n (pc := 62) hx hb dX9_init_62 rfl (lv_at hl 0 rfl) ?_
  refine lv_bipush (pc := 63) (v := 72) hx hb dX9_init_63 (by decide) ?_
  refine a_newa (pc := 65) (n := 8) (n1 := 9) (N := 72) C hW hS ai_tb (by decide) (by decide) (by decide) rfl (Nat.le_of_ble_eq_true rfl) (Nat.le_of_ble_eq_true rfl) dX9_init_65 (fun H hW hS => ?_)
  refine a_putF (pc := 67) (k := 0) (ci := 9) C hW hS tyX9 (by decide) rfl ⟨Nat.le_add_right _ _, Nat.add_lt_add_left (by decide) _⟩ rfl lays_X9 tyX9_ok nmX9 18 (by decide) fm_X9_31 rfl hin rfl (x := .ref ((z + 80) + 8)) rfl rfl (Nat.le_of_ble_eq_true rfl) dX9_init_67 (fun H locs hW hS => ?_)
  refine lv_aload_n (pc := 70) hx hb dX9_init_70 rfl (lv_at hl 0 rfl) ?_
  refine lv_iconst (pc := 71) (v := 4) hx hb dX9_init_71 (by decide) ?_
  refine a_newa (pc := 72) (n := 9) (n1 := 10) (N := 4) C hW hS ai_tb (by decide) (by decide) (by decide) rfl (Nat.le_of_ble_eq_true rfl) (Nat.le_of_ble_eq_true rfl) dX9_init_72 (fun H hW hS => ?_)
  refine lv_dup (pc := 74) hx hb dX9_init_74 rfl ?_
  refine lv_iconst (pc := 75) (v := 0) hx hb dX9_init_75 (by decide) ?_
  refine lv_iconst (pc := 76) (v := -1) hx hb dX9_init_76 (by decide) ?_
  refine a_iast (pc := 77) (k := 9) (i := 0) (j := 0) C hW hS (by decide) rfl ⟨Nat.le_add_right _ _, Nat.add_lt_add_left (by decide) _⟩ (by decide) (inb_in (by decide)) dX9_init_77 (fun H locs hW hS => ?_)
  refine lv_dup (pc := 78) hx hb dX9_init_78 rfl ?_
  refine lv_iconst (pc := 79) (v := 1) hx hb dX9_init_79 (by decide) ?_
  refine lv_iconst (pc := 80) (v := -1) hx hb dX9_init_80 (by decide) ?_
  refine a_iast (pc := 81) (k := 9) (i := 1) (j := 1) C hW hS (by decide) rfl ⟨Nat.le_add_right _ _, Nat.add_lt_add_left (by decide) _⟩ (by decide) (inb_in (by decide)) dX9_init_81 (fun H locs hW hS => ?_)
  refine lv_dup (pc := 82) hx hb dX9_init_82 rfl ?_
  refine lv_iconst (pc := 83) (v := 2) hx hb dX9_init_83 (by decide) ?_
  refine lv_iconst (pc := 84) (v := -1) hx hb dX9_init_84 (by decide) ?_
  refine a_iast (pc := 85) (k := 9) (i := 2) (j := 2) C hW hS (by decide) rfl ⟨Nat.le_add_right _ _, Nat.add_lt_add_left (by decide) _⟩ (by decide) (inb_in (by decide)) dX9_init_85 (fun H locs hW hS => ?_)
  refine lv_dup (pc := 86) hx hb dX9_init_86 rfl ?_
  refine lv_iconst (pc := 87) (v := 3) hx hb dX9_init_87 (by decide) ?_
  refine lv_iconst (pc := 88) (v := -1) hx hb dX9_init_88 (by decide) ?_
  refine a_iast (pc := 89) (k := 9) (i := 3) (j := 3) C hW hS (by decide) rfl ⟨Nat.le_add_right _ _, Nat.add_lt_add_left (by decide) _⟩ (by decide) (inb_in (by decide)) dX9_init_89 (fun H locs hW hS => ?_)
  refine a_putF (pc := 90) (k := 0) (ci := 9) C hW hS tyX9 (by decide) rfl ⟨Nat.le_add_right _ _, Nat.add_lt_add_left (by decide) _⟩ rfl lays_X9 tyX9_ok nmX9 19 (by decide) fm_X9_34 rfl hin rfl (x := .ref ((z + 80) + 9)) rfl rfl (Nat.le_of_ble_eq_true rfl) dX9_init_90 (fun H locs hW hS => ?_)
  refine lv_aload_n (pc := 93) hx hb dX9_init_93 rfl (lv_at hl 0 rfl) ?_
  refine lv_iconst (pc := 94) (v := 4) hx hb dX9_init_94 (by decide) ?_
  refine a_newa (pc := 95) (n := 10) (n1 := 11) (N := 4) C hW hS ai_tb (by decide) (by decide) (by decide) rfl (Nat.le_of_ble_eq_true rfl) (Nat.le_of_ble_eq_true rfl) dX9_init_95 (fun H hW hS => ?_)
  refine a_putF (pc := 97) (k := 0) (ci := 9) C hW hS tyX9 (by decide) rfl ⟨Nat.le_add_right _ _, Nat.add_lt_add_left (by decide) _⟩ rfl lays_X9 tyX9_ok nmX9 20 (by decide) fm_X9_37 rfl hin rfl (x := .ref ((z + 80) + 10)) rfl rfl (Nat.le_of_ble_eq_true rfl) dX9_init_97 (fun H locs hW hS => ?_)
  refine lv_aload_n (pc := 100) hx hb dX9_init_100 rfl (lv_at hl 0 rfl) ?_
  refine lv_sipush (pc := 101) (v := 160) hx hb dX9_init_101 (by decide) ?_
  refine a_newa (pc := 104) (n := 11) (n1 := 12) (N := 160) C hW hS ai_tb (by decide) (by decide) (by decide) rfl (Nat.le_of_ble_eq_true rfl) (Nat.le_of_ble_eq_true rfl) dX9_init_104 (fun H hW hS => ?_)
  refine a_putF (pc := 106) (k := 0) (ci := 9) C hW hS tyX9 (by decide) rfl ⟨Nat.le_add_right _ _, Nat.add_lt_add_left (by decide) _⟩ rfl lays_X9 tyX9_ok nmX9 21 (by decide) fm_X9_40 rfl hin rfl (x := .ref ((z + 80) + 11)) rfl rfl (Nat.le_of_ble_eq_true rfl) dX9_init_106 (fun H locs hW hS => ?_)
  refine lv_aload_n (pc := 109) hx hb dX9_init_109 rfl (lv_at hl 0 rfl) ?_
  refine lv_bipush (pc := 110) (v := 37) hx hb dX9_init_110 (by decide) ?_
  refine a_newa (pc := 112) (n := 12) (n1 := 13) (N := 37) C hW hS ai_tb (by decide) (by decide) (by decide) rfl (Nat.le_of_ble_eq_true rfl) (Nat.le_of_ble_eq_true rfl) dX9_init_112 (fun H hW hS => ?_)
  refine lv_dup (pc := 114) hx hb dX9_init_114 rfl ?_
  refine lv_iconst (pc := 115) (v := 0) hx hb dX9_init_115 (by decide) ?_
  refine lv_bipush (pc := 116) (v := 103) hx hb dX9_init_116 (by decide) ?_
  refine a_iast (pc := 118) (k := 12) (i := 0) (j := 0) C hW hS (by decide) rfl ⟨Nat.le_add_right _ _, Nat.add_lt_add_left (by decide) _⟩ (by decide) (inb_in (by decide)) dX9_init_118 (fun H locs hW hS => ?_)
  refine lv_dup (pc := 119) hx hb dX9_init_119 rfl ?_
  refine lv_iconst (pc := 120) (v := 1) hx hb dX9_init_120 (by decide) ?_
  refine lv_bipush (pc := 121) (v := 114) hx hb dX9_init_121 (by decide) ?_
  refine a_iast (pc := 123) (k := 12) (i := 1) (j := 1) C hW hS (by decide) rfl ⟨Nat.le_add_right _ _, Nat.add_lt_add_left (by decide) _⟩ (by decide) (inb_in (by decide)) dX9_init_123 (fun H locs hW hS => ?_)
  refine lv_dup (pc := 124) hx hb dX9_init_124 rfl ?_
  refine lv_iconst (pc := 125) (v := 2) hx hb dX9_init_125 (by decide) ?_
  refine lv_bipush (pc := 126) (v := 111) hx hb dX9_init_126 (by decide) ?_
  refine a_iast (pc := 128) (k := 12) (i := 2) (j := 2) C hW hS (by decide) rfl ⟨Nat.le_add_right _ _, Nat.add_lt_add_left (by decide) _⟩ (by decide) (inb_in (by decide)) dX9_init_128 (fun H locs hW hS => ?_)
  refine lv_dup (pc := 129) hx hb dX9_init_129 rfl ?_
  refine lv_iconst (pc := 130) (v := 3) hx hb dX9_init_130 (by decide) ?_
  refine lv_bipush (pc := 131) (v := 119) hx hb dX9_init_131 (by decide) ?_
  refine a_iast (pc := 133) (k := 12) (i := 3) (j := 3) C hW hS (by decide) rfl ⟨Nat.le_add_right _ _, Nat.add_lt_add_left (by decide) _⟩ (by decide) (inb_in (by decide)) dX9_init_133 (fun H locs hW hS => ?_)
  refine lv_dup (pc := 134) hx hb dX9_init_134 rfl ?_
  refine lv_iconst (pc := 135) (v := 4) hx hb dX9_init_135 (by decide) ?_
  refine lv_bipush (pc := 136) (v := 115) hx hb dX9_init_136 (by decide) ?_
  refine a_iast (pc := 138) (k := 12) (i := 4) (j := 4) C hW hS (by decide) rfl ⟨Nat.le_add_right _ _, Nat.add_lt_add_left (by decide) _⟩ (by decide) (inb_in (by decide)) dX9_init_138 (fun H locs hW hS => ?_)
  refine lv_dup (pc := 139) hx hb dX9_init_139 rfl ?_
  refine lv_iconst (pc := 140) (v := 5) hx hb dX9_init_140 (by decide) ?_
  refine lv_bipush (pc := 141) (v := 32) hx hb dX9_init_141 (by decide) ?_
  refine a_iast (pc := 143) (k := 12) (i := 5) (j := 5) C hW hS (by decide) rfl ⟨Nat.le_add_right _ _, Nat.add_lt_add_left (by decide) _⟩ (by decide) (inb_in (by decide)) dX9_init_143 (fun H locs hW hS => ?_)
  refine lv_dup (pc := 144) hx hb dX9_init_144 rfl ?_
  refine lv_bipush (pc := 145) (v := 6) hx hb dX9_init_145 (by decide) ?_
  refine lv_bipush (pc := 147) (v := 52) hx hb dX9_init_147 (by decide) ?_
  refine a_iast (pc := 149) (k := 12) (i := 6) (j := 6) C hW hS (by decide) rfl ⟨Nat.le_add_right _ _, Nat.add_lt_add_left (by decide) _⟩ (by decide) (inb_in (by decide)) dX9_init_149 (fun H locs hW hS => ?_)
  refine lv_dup (pc := 150) hx hb dX9_init_150 rfl ?_
  refine lv_bipush (pc := 151) (v := 7) hx hb dX9_init_151 (by decide) ?_
  refine lv_bipush (pc := 153) (v := 32) hx hb dX9_init_153 (by decide) ?_
  refine a_iast (pc := 155) (k := 12) (i := 7) (j := 7) C hW hS (by decide) rfl ⟨Nat.le_add_right _ _, Nat.add_lt_add_left (by decide) _⟩ (by decide) (inb_in (by decide)) dX9_init_155 (fun H locs hW hS => ?_)
  refine lv_dup (pc := 156) hx hb dX9_init_156 rfl ?_
  refine lv_bipush (pc := 157) (v := 8) hx hb dX9_init_157 (by decide) ?_
  refine lv_bipush (pc := 159) (v := 43) hx hb dX9_init_159 (by decide) ?_
  refine a_iast (pc := 161) (k := 12) (i := 8) (j := 8) C hW hS (by decide) rfl ⟨Nat.le_add_right _ _, Nat.add_lt_add_left (by decide) _⟩ (by decide) (inb_in (by decide)) dX9_init_161 (fun H locs hW hS => ?_)
  refine lv_dup (pc := 162) hx hb dX9_init_162 rfl ?_
  refine lv_bipush (pc := 163) (v := 9) hx hb dX9_init_163 (by decide) ?_
  refine lv_bipush (pc := 165) (v := 32) hx hb dX9_init_165 (by decide) ?_
  refine a_iast (pc := 167) (k := 12) (i := 9) (j := 9) C hW hS (by decide) rfl ⟨Nat.le_add_right _ _, Nat.add_lt_add_left (by decide) _⟩ (by decide) (inb_in (by decide)) dX9_init_167 (fun H locs hW hS => ?_)
  refine lv_dup (pc := 168) hx hb dX9_init_168 rfl ?_
  refine lv_bipush (pc := 169) (v := 10) hx hb dX9_init_169 (by decide) ?_
  refine lv_bipush (pc := 171) (v := 111) hx hb dX9_init_171 (by decide) ?_
  refine a_iast (pc := 173) (k := 12) (i := 10) (j := 10) C hW hS (by decide) rfl ⟨Nat.le_add_right _ _, Nat.add_lt_add_left (by decide) _⟩ (by decide) (inb_in (by decide)) dX9_init_173 (fun H locs hW hS => ?_)
  refine lv_dup (pc := 174) hx hb dX9_init_174 rfl ?_
  refine lv_bipush (pc := 175) (v := 11) hx hb dX9_init_175 (by decide) ?_
  refine lv_bipush (pc := 177) (v := 105) hx hb dX9_init_177 (by decide) ?_
  refine a_iast (pc := 179) (k := 12) (i := 11) (j := 11) C hW hS (by decide) rfl ⟨Nat.le_add_right _ _, Nat.add_lt_add_left (by decide) _⟩ (by decide) (inb_in (by decide)) dX9_init_179 (fun H locs hW hS => ?_)
  refine lv_dup (pc := 180) hx hb dX9_init_180 rfl ?_
  refine lv_bipush (pc := 181) (v := 12) hx hb dX9_init_181 (by decide) ?_
  refine lv_bipush (pc := 183) (v := 108) hx hb dX9_init_183 (by decide) ?_
  refine a_iast (pc := 185) (k := 12) (i := 12) (j := 12) C hW hS (by decide) rfl ⟨Nat.le_add_right _ _, Nat.add_lt_add_left (by decide) _⟩ (by decide) (inb_in (by decide)) dX9_init_185 (fun H locs hW hS => ?_)
  replace hW : Wg D (z + 80) 13 (rx0 z ac) H := ⟨hW.1, fun q hq => by
    have h := hW.2 q hq
    revert h
    have hc : q = 0 ∨ q = 1 ∨ q = 2 ∨ q = 3 ∨ q = 4 ∨ q = 5 ∨ q = 6 ∨ q = 7 ∨ q = 8 ∨ q = 9 ∨ q = 10 ∨ q = 11 ∨ q = 12 := by omega
    rcases hc with rfl | rfl | rfl | rfl | rfl | rfl | rfl | rfl | rfl | rfl | rfl | rfl | rfl
    · exact id
    · refine at_ints (cA := ac 0) (N := 6) ?_ _ _
      decide +kernel
    · refine at_ints (cA := ac 0) (N := 6) ?_ _ _
      decide +kernel
    · refine at_ints (cA := ac 0) (N := 24) ?_ _ _
      decide +kernel
    · refine at_ints (cA := ac 0) (N := 48) ?_ _ _
      decide +kernel
    · refine at_ints (cA := ac 0) (N := 160) ?_ _ _
      decide +kernel
    · refine at_ints (cA := ac 0) (N := 1200) ?_ _ _
      decide +kernel
    · refine at_ints (cA := ac 0) (N := 24) ?_ _ _
      decide +kernel
    · refine at_ints (cA := ac 0) (N := 72) ?_ _ _
      decide +kernel
    · refine at_ints (cA := ac 0) (N := 4) ?_ _ _
      decide +kernel
    · refine at_ints (cA := ac 0) (N := 4) ?_ _ _
      decide +kernel
    · refine at_ints (cA := ac 0) (N := 160) ?_ _ _
      decide +kernel
    · refine at_ints (cA := ac 0) (N := 37) ?_ _ _
      decide +kernel
    ⟩
  refine lv_dup (pc := 186) hx hb dX9_init_186 rfl ?_
  refine lv_bipush (pc := 187) (v := 13) hx hb dX9_init_187 (by decide) ?_
  refine lv_bipush (pc := 189) (v := 32) hx hb dX9_init_189 (by decide) ?_
  refine a_iast (pc := 191) (k := 12) (i := 13) (j := 13) C hW hS (by decide) rfl ⟨Nat.le_add_right _ _, Nat.add_lt_add_left (by decide) _⟩ (by decide) (inb_in (by decide)) dX9_init_191 (fun H locs hW hS => ?_)
  refine lv_dup (pc := 192) hx hb dX9_init_192 rfl ?_
  refine lv_bipush (pc := 193) (v := 14) hx hb dX9_init_193 (by decide) ?_
  refine lv_bipush (pc := 195) (v := 59) hx hb dX9_init_195 (by decide) ?_
  refine a_iast (pc := 197) (k := 12) (i := 14) (j := 14) C hW hS (by decide) rfl ⟨Nat.le_add_right _ _, Nat.add_lt_add_left (by decide) _⟩ (by decide) (inb_in (by decide)) dX9_init_197 (fun H locs hW hS => ?_)
  refine lv_dup (pc := 198) hx hb dX9_init_198 rfl ?_
  refine lv_bipush (pc := 199) (v := 15) hx hb dX9_init_199 (by decide) ?_
  refine lv_bipush (pc := 201) (v := 32) hx hb dX9_init_201 (by decide) ?_
  refine a_iast (pc := 203) (k := 12) (i := 15) (j := 15) C hW hS (by decide) rfl ⟨Nat.le_add_right _ _, Nat.add_lt_add_left (by decide) _⟩ (by decide) (inb_in (by decide)) dX9_init_203 (fun H locs hW hS => ?_)
  refine lv_dup (pc := 204) hx hb dX9_init_204 rfl ?_
  refine lv_bipush (pc := 205) (v := 16) hx hb dX9_init_205 (by decide) ?_
  refine lv_bipush (pc := 207) (v := 116) hx hb dX9_init_207 (by decide) ?_
  refine a_iast (pc := 209) (k := 12) (i := 16) (j := 16) C hW hS (by decide) rfl ⟨Nat.le_add_right _ _, Nat.add_lt_add_left (by decide) _⟩ (by decide) (inb_in (by decide)) dX9_init_209 (fun H locs hW hS => ?_)
  refine lv_dup (pc := 210) hx hb dX9_init_210 rfl ?_
  refine lv_bipush (pc := 211) (v := 17) hx hb dX9_init_211 (by decide) ?_
  refine lv_bipush (pc := 213) (v := 114) hx hb dX9_init_213 (by decide) ?_
  refine a_iast (pc := 215) (k := 12) (i := 17) (j := 17) C hW hS (by decide) rfl ⟨Nat.le_add_right _ _, Nat.add_lt_add_left (by decide) _⟩ (by decide) (inb_in (by decide)) dX9_init_215 (fun H locs hW hS => ?_)
  refine lv_dup (pc := 216) hx hb dX9_init_216 rfl ?_
  refine lv_bipush (pc := 217) (v := 18) hx hb dX9_init_217 (by decide) ?_
  refine lv_bipush (pc := 219) (v := 105) hx hb dX9_init_219 (by decide) ?_
  refine a_iast (pc := 221) (k := 12) (i := 18) (j := 18) C hW hS (by decide) rfl ⟨Nat.le_add_right _ _, Nat.add_lt_add_left (by decide) _⟩ (by decide) (inb_in (by decide)) dX9_init_221 (fun H locs hW hS => ?_)
  refine lv_dup (pc := 222) hx hb dX9_init_222 rfl ?_
  refine lv_bipush (pc := 223) (v := 19) hx hb dX9_init_223 (by decide) ?_
  refine lv_bipush (pc := 225) (v := 109) hx hb dX9_init_225 (by decide) ?_
  refine a_iast (pc := 227) (k := 12) (i := 19) (j := 19) C hW hS (by decide) rfl ⟨Nat.le_add_right _ _, Nat.add_lt_add_left (by decide) _⟩ (by decide) (inb_in (by decide)) dX9_init_227 (fun H locs hW hS => ?_)
  refine lv_dup (pc := 228) hx hb dX9_init_228 rfl ?_
  refine lv_bipush (pc := 229) (v := 20) hx hb dX9_init_229 (by decide) ?_
  refine lv_bipush (pc := 231) (v := 115) hx hb dX9_init_231 (by decide) ?_
  refine a_iast (pc := 233) (k := 12) (i := 20) (j := 20) C hW hS (by decide) rfl ⟨Nat.le_add_right _ _, Nat.add_lt_add_left (by decide) _⟩ (by decide) (inb_in (by decide)) dX9_init_233 (fun H locs hW hS => ?_)
  refine lv_dup (pc := 234) hx hb dX9_init_234 rfl ?_
  refine lv_bipush (pc := 235) (v := 21) hx hb dX9_init_235 (by decide) ?_
  refine lv_bipush (pc := 237) (v := 32) hx hb dX9_init_237 (by decide) ?_
  refine a_iast (pc := 239) (k := 12) (i := 21) (j := 21) C hW hS (by decide) rfl ⟨Nat.le_add_right _ _, Nat.add_lt_add_left (by decide) _⟩ (by decide) (inb_in (by decide)) dX9_init_239 (fun H locs hW hS => ?_)
  refine lv_dup (pc := 240) hx hb dX9_init_240 rfl ?_
  refine lv_bipush (pc := 241) (v := 22) hx hb dX9_init_241 (by decide) ?_
  refine lv_bipush (pc := 243) (v := 50) hx hb dX9_init_243 (by decide) ?_
  refine a_iast (pc := 245) (k := 12) (i := 22) (j := 22) C hW hS (by decide) rfl ⟨Nat.le_add_right _ _, Nat.add_lt_add_left (by decide) _⟩ (by decide) (inb_in (by decide)) dX9_init_245 (fun H locs hW hS => ?_)
  refine lv_dup (pc := 246) hx hb dX9_init_246 rfl ?_
  refine lv_bipush (pc := 247) (v := 23) hx hb dX9_init_247 (by decide) ?_
  refine lv_bipush (pc := 249) (v := 32) hx hb dX9_init_249 (by decide) ?_
  refine a_iast (pc := 251) (k := 12) (i := 23) (j := 23) C hW hS (by decide) rfl ⟨Nat.le_add_right _ _, Nat.add_lt_add_left (by decide) _⟩ (by decide) (inb_in (by decide)) dX9_init_251 (fun H locs hW hS => ?_)
  refine lv_dup (pc := 252) hx hb dX9_init_252 rfl ?_
  refine lv_bipush (pc := 253) (v := 24) hx hb dX9_init_253 (by decide) ?_
  refine lv_bipush (pc := 255) (v := 59) hx hb dX9_init_255 (by decide) ?_
  refine a_iast (pc := 257) (k := 12) (i := 24) (j := 24) C hW hS (by decide) rfl ⟨Nat.le_add_right _ _, Nat.add_lt_add_left (by decide) _⟩ (by decide) (inb_in (by decide)) dX9_init_257 (fun H locs hW hS => ?_)
  refine lv_dup (pc := 258) hx hb dX9_init_258 rfl ?_
  refine lv_bipush (pc := 259) (v := 25) hx hb dX9_init_259 (by decide) ?_
  refine lv_bipush (pc := 261) (v := 32) hx hb dX9_init_261 (by decide) ?_
  refine a_iast (pc := 263) (k := 12) (i := 25) (j := 25) C hW hS (by decide) rfl ⟨Nat.le_add_right _ _, Nat.add_lt_add_left (by decide) _⟩ (by decide) (inb_in (by decide)) dX9_init_263 (fun H locs hW hS => ?_)
  refine lv_dup (pc := 264) hx hb dX9_init_264 rfl ?_
  refine lv_bipush (pc := 265) (v := 26) hx hb dX9_init_265 (by decide) ?_
  refine lv_bipush (pc := 267) (v := 115) hx hb dX9_init_267 (by decide) ?_
  refine a_iast (pc := 269) (k := 12) (i := 26) (j := 26) C hW hS (by decide) rfl ⟨Nat.le_add_right _ _, Nat.add_lt_add_left (by decide) _⟩ (by decide) (inb_in (by decide)) dX9_init_269 (fun H locs hW hS => ?_)
  refine lv_dup (pc := 270) hx hb dX9_init_270 rfl ?_
  refine lv_bipush (pc := 271) (v := 27) hx hb dX9_init_271 (by decide) ?_
  refine lv_bipush (pc := 273) (v := 104) hx hb dX9_init_273 (by decide) ?_
  refine a_iast (pc := 275) (k := 12) (i := 27) (j := 27) C hW hS (by decide) rfl ⟨Nat.le_add_right _ _, Nat.add_lt_add_left (by decide) _⟩ (by decide) (inb_in (by decide)) dX9_init_275 (fun H locs hW hS => ?_)
  refine lv_dup (pc := 276) hx hb dX9_init_276 rfl ?_
  refine lv_bipush (pc := 277) (v := 28) hx hb dX9_init_277 (by decide) ?_
  refine lv_bipush (pc := 279) (v := 97) hx hb dX9_init_279 (by decide) ?_
  refine a_iast (pc := 281) (k := 12) (i := 28) (j := 28) C hW hS (by decide) rfl ⟨Nat.le_add_right _ _, Nat.add_lt_add_left (by decide) _⟩ (by decide) (inb_in (by decide)) dX9_init_281 (fun H locs hW hS => ?_)
  refine lv_dup (pc := 282) hx hb dX9_init_282 rfl ?_
  refine lv_bipush (pc := 283) (v := 29) hx hb dX9_init_283 (by decide) ?_
  refine lv_bipush (pc := 285) (v := 109) hx hb dX9_init_285 (by decide) ?_
  refine a_iast (pc := 287) (k := 12) (i := 29) (j := 29) C hW hS (by decide) rfl ⟨Nat.le_add_right _ _, Nat.add_lt_add_left (by decide) _⟩ (by decide) (inb_in (by decide)) dX9_init_287 (fun H locs hW hS => ?_)
  refine lv_dup (pc := 288) hx hb dX9_init_288 rfl ?_
  refine lv_bipush (pc := 289) (v := 30) hx hb dX9_init_289 (by decide) ?_
  refine lv_bipush (pc := 291) (v := 101) hx hb dX9_init_291 (by decide) ?_
  refine a_iast (pc := 293) (k := 12) (i := 30) (j := 30) C hW hS (by decide) rfl ⟨Nat.le_add_right _ _, Nat.add_lt_add_left (by decide) _⟩ (by decide) (inb_in (by decide)) dX9_init_293 (fun H locs hW hS => ?_)
  refine lv_dup (pc := 294) hx hb dX9_init_294 rfl ?_
  refine lv_bipush (pc := 295) (v := 31) hx hb dX9_init_295 (by decide) ?_
  refine lv_bipush (pc := 297) (v := 115) hx hb dX9_init_297 (by decide) ?_
  refine a_iast (pc := 299) (k := 12) (i := 31) (j := 31) C hW hS (by decide) rfl ⟨Nat.le_add_right _ _, Nat.add_lt_add_left (by decide) _⟩ (by decide) (inb_in (by decide)) dX9_init_299 (fun H locs hW hS => ?_)
  refine lv_dup (pc := 300) hx hb dX9_init_300 rfl ?_
  refine lv_bipush (pc := 301) (v := 32) hx hb dX9_init_301 (by decide) ?_
  refine lv_bipush (pc := 303) (v := 32) hx hb dX9_init_303 (by decide) ?_
  refine a_iast (pc := 305) (k := 12) (i := 32) (j := 32) C hW hS (by decide) rfl ⟨Nat.le_add_right _ _, Nat.add_lt_add_left (by decide) _⟩ (by decide) (inb_in (by decide)) dX9_init_305 (fun H locs hW hS => ?_)
  refine lv_dup (pc := 306) hx hb dX9_init_306 rfl ?_
  refine lv_bipush (pc := 307) (v := 33) hx hb dX9_init_307 (by decide) ?_
  refine lv_bipush (pc := 309) (v := 49) hx hb dX9_init_309 (by decide) ?_
  refine a_iast (pc := 311) (k := 12) (i := 33) (j := 33) C hW hS (by decide) rfl ⟨Nat.le_add_right _ _, Nat.add_lt_add_left (by decide) _⟩ (by decide) (inb_in (by decide)) dX9_init_311 (fun H locs hW hS => ?_)
  refine lv_dup (pc := 312) hx hb dX9_init_312 rfl ?_
  refine lv_bipush (pc := 313) (v := 34) hx hb dX9_init_313 (by decide) ?_
  refine lv_bipush (pc := 315) (v := 48) hx hb dX9_init_315 (by decide) ?_
  refine a_iast (pc := 317) (k := 12) (i := 34) (j := 34) C hW hS (by decide) rfl ⟨Nat.le_add_right _ _, Nat.add_lt_add_left (by decide) _⟩ (by decide) (inb_in (by decide)) dX9_init_317 (fun H locs hW hS => ?_)
  refine lv_dup (pc := 318) hx hb dX9_init_318 rfl ?_
  refine lv_bipush (pc := 319) (v := 35) hx hb dX9_init_319 (by decide) ?_
  refine lv_bipush (pc := 321) (v := 32) hx hb dX9_init_321 (by decide) ?_
  refine a_iast (pc := 323) (k := 12) (i := 35) (j := 35) C hW hS (by decide) rfl ⟨Nat.le_add_right _ _, Nat.add_lt_add_left (by decide) _⟩ (by decide) (inb_in (by decide)) dX9_init_323 (fun H locs hW hS => ?_)
  refine lv_dup (pc := 324) hx hb dX9_init_324 rfl ?_
  refine lv_bipush (pc := 325) (v := 36) hx hb dX9_init_325 (by decide) ?_
  refine lv_bipush (pc := 327) (v := 59) hx hb dX9_init_327 (by decide) ?_
  refine a_iast (pc := 329) (k := 12) (i := 36) (j := 36) C hW hS (by decide) rfl ⟨Nat.le_add_right _ _, Nat.add_lt_add_left (by decide) _⟩ (by decide) (inb_in (by decide)) dX9_init_329 (fun H locs hW hS => ?_)
  refine a_putF (pc := 330) (k := 0) (ci := 9) C hW hS tyX9 (by decide) rfl ⟨Nat.le_add_right _ _, Nat.add_lt_add_left (by decide) _⟩ rfl lays_X9 tyX9_ok nmX9 22 (by decide) fm_X9_43 rfl hin rfl (x := .ref ((z + 80) + 12)) rfl rfl (Nat.le_of_ble_eq_true rfl) dX9_init_330 (fun H locs hW hS => ?_)
  refine lv_aload_n (pc := 333) hx hb dX9_init_333 rfl (lv_at hl 0 rfl) ?_
  refine lv_bipush (pc := 334) (v := 96) hx hb dX9_init_334 (by decide) ?_
  refine a_newa (pc := 336) (n := 13) (n1 := 14) (N := 96) C hW hS ai_tb (by decide) (by decide) (by decide) rfl (Nat.le_of_ble_eq_true rfl) (Nat.le_of_ble_eq_true rfl) dX9_init_336 (fun H hW hS => ?_)
  refine lv_dup (pc := 338) hx hb dX9_init_338 rfl ?_
  refine lv_iconst (pc := 339) (v := 0) hx hb dX9_init_339 (by decide) ?_
  refine lv_bipush (pc := 340) (v := 103) hx hb dX9_init_340 (by decide) ?_
  refine a_iast (pc := 342) (k := 13) (i := 0) (j := 0) C hW hS (by decide) rfl ⟨Nat.le_add_right _ _, Nat.add_lt_add_left (by decide) _⟩ (by decide) (inb_in (by decide)) dX9_init_342 (fun H locs hW hS => ?_)
  refine lv_dup (pc := 343) hx hb dX9_init_343 rfl ?_
  refine lv_iconst (pc := 344) (v := 1) hx hb dX9_init_344 (by decide) ?_
  refine lv_bipush (pc := 345) (v := 114) hx hb dX9_init_345 (by decide) ?_
  refine a_iast (pc := 347) (k := 13) (i := 1) (j := 1) C hW hS (by decide) rfl ⟨Nat.le_add_right _ _, Nat.add_lt_add_left (by decide) _⟩ (by decide) (inb_in (by decide)) dX9_init_347 (fun H locs hW hS => ?_)
  refine lv_dup (pc := 348) hx hb dX9_init_348 rfl ?_
  refine lv_iconst (pc := 349) (v := 2) hx hb dX9_init_349 (by decide) ?_
  refine lv_bipush (pc := 350) (v := 111) hx hb dX9_init_350 (by decide) ?_
  refine a_iast (pc := 352) (k := 13) (i := 2) (j := 2) C hW hS (by decide) rfl ⟨Nat.le_add_right _ _, Nat.add_lt_add_left (by decide) _⟩ (by decide) (inb_in (by decide)) dX9_init_352 (fun H locs hW hS => ?_)
  refine lv_dup (pc := 353) hx hb dX9_init_353 rfl ?_
  refine lv_iconst (pc := 354) (v := 3) hx hb dX9_init_354 (by decide) ?_
  refine lv_bipush (pc := 355) (v := 119) hx hb dX9_init_355 (by decide) ?_
  refine a_iast (pc := 357) (k := 13) (i := 3) (j := 3) C hW hS (by decide) rfl ⟨Nat.le_add_right _ _, Nat.add_lt_add_left (by decide) _⟩ (by decide) (inb_in (by decide)) dX9_init_357 (fun H locs hW hS => ?_)
  refine lv_dup (pc := 358) hx hb dX9_init_358 rfl ?_
  refine lv_iconst (pc := 359) (v := 4) hx hb dX9_init_359 (by decide) ?_
  refine lv_bipush (pc := 360) (v := 115) hx hb dX9_init_360 (by decide) ?_
  refine a_iast (pc := 362) (k := 13) (i := 4) (j := 4) C hW hS (by decide) rfl ⟨Nat.le_add_right _ _, Nat.add_lt_add_left (by decide) _⟩ (by decide) (inb_in (by decide)) dX9_init_362 (fun H locs hW hS => ?_)
  refine lv_dup (pc := 363) hx hb dX9_init_363 rfl ?_
  refine lv_iconst (pc := 364) (v := 5) hx hb dX9_init_364 (by decide) ?_
  refine lv_bipush (pc := 365) (v := 32) hx hb dX9_init_365 (by decide) ?_
  refine a_iast (pc := 367) (k := 13) (i := 5) (j := 5) C hW hS (by decide) rfl ⟨Nat.le_add_right _ _, Nat.add_lt_add_left (by decide) _⟩ (by decide) (inb_in (by decide)) dX9_init_367 (fun H locs hW hS => ?_)
  refine lv_dup (pc := 368) hx hb dX9_init_368 rfl ?_
  refine lv_bipush (pc := 369) (v := 6) hx hb dX9_init_369 (by decide) ?_
  refine lv_bipush (pc := 371) (v := 32) hx hb dX9_init_371 (by decide) ?_
  refine a_iast (pc := 373) (k := 13) (i := 6) (j := 6) C hW hS (by decide) rfl ⟨Nat.le_add_right _ _, Nat.add_lt_add_left (by decide) _⟩ (by decide) (inb_in (by decide)) dX9_init_373 (fun H locs hW hS => ?_)
  refine lv_dup (pc := 374) hx hb dX9_init_374 rfl ?_
  refine lv_bipush (pc := 375) (v := 7) hx hb dX9_init_375 (by decide) ?_
  refine lv_bipush (pc := 377) (v := 32) hx hb dX9_init_377 (by decide) ?_
  refine a_iast (pc := 379) (k := 13) (i := 7) (j := 7) C hW hS (by decide) rfl ⟨Nat.le_add_right _ _, Nat.add_lt_add_left (by decide) _⟩ (by decide) (inb_in (by decide)) dX9_init_379 (fun H locs hW hS => ?_)
  refine lv_dup (pc := 380) hx hb dX9_init_380 rfl ?_
  refine lv_bipush (pc := 381) (v := 8) hx hb dX9_init_381 (by decide) ?_
  refine lv_bipush (pc := 383) (v := 116) hx hb dX9_init_383 (by decide) ?_
  refine a_iast (pc := 385) (k := 13) (i := 8) (j := 8) C hW hS (by decide) rfl ⟨Nat.le_add_right _ _, Nat.add_lt_add_left (by decide) _⟩ (by decide) (inb_in (by decide)) dX9_init_385 (fun H locs hW hS => ?_)
  refine lv_dup (pc := 386) hx hb dX9_init_386 rfl ?_
  refine lv_bipush (pc := 387) (v := 9) hx hb dX9_init_387 (by decide) ?_
  refine lv_bipush (pc := 389) (v := 114) hx hb dX9_init_389 (by decide) ?_
  refine a_iast (pc := 391) (k := 13) (i := 9) (j := 9) C hW hS (by decide) rfl ⟨Nat.le_add_right _ _, Nat.add_lt_add_left (by decide) _⟩ (by decide) (inb_in (by decide)) dX9_init_391 (fun H locs hW hS => ?_)
  refine lv_dup (pc := 392) hx hb dX9_init_392 rfl ?_
  refine lv_bipush (pc := 393) (v := 10) hx hb dX9_init_393 (by decide) ?_
  refine lv_bipush (pc := 395) (v := 105) hx hb dX9_init_395 (by decide) ?_
  refine a_iast (pc := 397) (k := 13) (i := 10) (j := 10) C hW hS (by decide) rfl ⟨Nat.le_add_right _ _, Nat.add_lt_add_left (by decide) _⟩ (by decide) (inb_in (by decide)) dX9_init_397 (fun H locs hW hS => ?_)
  refine lv_dup (pc := 398) hx hb dX9_init_398 rfl ?_
  refine lv_bipush (pc := 399) (v := 11) hx hb dX9_init_399 (by decide) ?_
  refine lv_bipush (pc := 401) (v := 109) hx hb dX9_init_401 (by decide) ?_
  refine a_iast (pc := 403) (k := 13) (i := 11) (j := 11) C hW hS (by decide) rfl ⟨Nat.le_add_right _ _, Nat.add_lt_add_left (by decide) _⟩ (by decide) (inb_in (by decide)) dX9_init_403 (fun H locs hW hS => ?_)
  refine lv_dup (pc := 404) hx hb dX9_init_404 rfl ?_
  refine lv_bipush (pc := 405) (v := 12) hx hb dX9_init_405 (by decide) ?_
  refine lv_bipush (pc := 407) (v := 115) hx hb dX9_init_407 (by decide) ?_
  refine a_iast (pc := 409) (k := 13) (i := 12) (j := 12) C hW hS (by decide) rfl ⟨Nat.le_add_right _ _, Nat.add_lt_add_left (by decide) _⟩ (by decide) (inb_in (by decide)) dX9_init_409 (fun H locs hW hS => ?_)
  refine lv_dup (pc := 410) hx hb dX9_init_410 rfl ?_
  refine lv_bipush (pc := 411) (v := 13) hx hb dX9_init_411 (by decide) ?_
  refine lv_bipush (pc := 413) (v := 32) hx hb dX9_init_413 (by decide) ?_
  refine a_iast (pc := 415) (k := 13) (i := 13) (j := 13) C hW hS (by decide) rfl ⟨Nat.le_add_right _ _, Nat.add_lt_add_left (by decide) _⟩ (by decide) (inb_in (by decide)) dX9_init_415 (fun H locs hW hS => ?_)
  replace hW : Wg D (z + 80) 14 (rx1 z ac) H := ⟨hW.1, fun q hq => by
    have h := hW.2 q hq
    revert h
    have hc : q = 0 ∨ q = 1 ∨ q = 2 ∨ q = 3 ∨ q = 4 ∨ q = 5 ∨ q = 6 ∨ q = 7 ∨ q = 8 ∨ q = 9 ∨ q = 10 ∨ q = 11 ∨ q = 12 ∨ q = 13 := by omega
    rcases hc with rfl | rfl | rfl | rfl | rfl | rfl | rfl | rfl | rfl | rfl | rfl | rfl | rfl | rfl
    · exact id
    · refine at_ints (cA := ac 0) (N := 6) ?_ _ _
      decide +kernel
    · refine at_ints (cA := ac 0) (N := 6) ?_ _ _
      decide +kernel
    · refine at_ints (cA := ac 0) (N := 24) ?_ _ _
      decide +kernel
    · refine at_ints (cA := ac 0) (N := 48) ?_ _ _
      decide +kernel
    · refine at_ints (cA := ac 0) (N := 160) ?_ _ _
      decide +kernel
    · refine at_ints (cA := ac 0) (N := 1200) ?_ _ _
      decide +kernel
    · refine at_ints (cA := ac 0) (N := 24) ?_ _ _
      decide +kernel
    · refine at_ints (cA := ac 0) (N := 72) ?_ _ _
      decide +kernel
    · refine at_ints (cA := ac 0) (N := 4) ?_ _ _
      decide +kernel
    · refine at_ints (cA := ac 0) (N := 4) ?_ _ _
      decide +kernel
    · refine at_ints (cA := ac 0) (N := 160) ?_ _ _
      decide +kernel
    · refine at_ints (cA := ac 0) (N := 37) ?_ _ _
      decide +kernel
    · refine at_ints (cA := ac 0) (N := 96) ?_ _ _
      decide +kernel
    ⟩
  refine lv_dup (pc := 416) hx hb dX9_init_416 rfl ?_
  refine lv_bipush (pc := 417) (v := 14) hx hb dX9_init_417 (by decide) ?_
  refine lv_bipush (pc := 419) (v := 32) hx hb dX9_init_419 (by decide) ?_
  refine a_iast (pc := 421) (k := 13) (i := 14) (j := 14) C hW hS (by decide) rfl ⟨Nat.le_add_right _ _, Nat.add_lt_add_left (by decide) _⟩ (by decide) (inb_in (by decide)) dX9_init_421 (fun H locs hW hS => ?_)
  refine lv_dup (pc := 422) hx hb dX9_init_422 rfl ?_
  refine lv_bipush (pc := 423) (v := 15) hx hb dX9_init_423 (by decide) ?_
  refine lv_bipush (pc := 425) (v := 32) hx hb dX9_init_425 (by decide) ?_
  refine a_iast (pc := 427) (k := 13) (i := 15) (j := 15) C hW hS (by decide) rfl ⟨Nat.le_add_right _ _, Nat.add_lt_add_left (by decide) _⟩ (by decide) (inb_in (by decide)) dX9_init_427 (fun H locs hW hS => ?_)
  refine lv_dup (pc := 428) hx hb dX9_init_428 rfl ?_
  refine lv_bipush (pc := 429) (v := 16) hx hb dX9_init_429 (by decide) ?_
  refine lv_bipush (pc := 431) (v := 115) hx hb dX9_init_431 (by decide) ?_
  refine a_iast (pc := 433) (k := 13) (i := 16) (j := 16) C hW hS (by decide) rfl ⟨Nat.le_add_right _ _, Nat.add_lt_add_left (by decide) _⟩ (by decide) (inb_in (by decide)) dX9_init_433 (fun H locs hW hS => ?_)
  refine lv_dup (pc := 434) hx hb dX9_init_434 rfl ?_
  refine lv_bipush (pc := 435) (v := 17) hx hb dX9_init_435 (by decide) ?_
  refine lv_bipush (pc := 437) (v := 104) hx hb dX9_init_437 (by decide) ?_
  refine a_iast (pc := 439) (k := 13) (i := 17) (j := 17) C hW hS (by decide) rfl ⟨Nat.le_add_right _ _, Nat.add_lt_add_left (by decide) _⟩ (by decide) (inb_in (by decide)) dX9_init_439 (fun H locs hW hS => ?_)
  refine lv_dup (pc := 440) hx hb dX9_init_440 rfl ?_
  refine lv_bipush (pc := 441) (v := 18) hx hb dX9_init_441 (by decide) ?_
  refine lv_bipush (pc := 443) (v := 97) hx hb dX9_init_443 (by decide) ?_
  refine a_iast (pc := 445) (k := 13) (i := 18) (j := 18) C hW hS (by decide) rfl ⟨Nat.le_add_right _ _, Nat.add_lt_add_left (by decide) _⟩ (by decide) (inb_in (by decide)) dX9_init_445 (fun H locs hW hS => ?_)
  refine lv_dup (pc := 446) hx hb dX9_init_446 rfl ?_
  refine lv_bipush (pc := 447) (v := 19) hx hb dX9_init_447 (by decide) ?_
  refine lv_bipush (pc := 449) (v := 109) hx hb dX9_init_449 (by decide) ?_
  refine a_iast (pc := 451) (k := 13) (i := 19) (j := 19) C hW hS (by decide) rfl ⟨Nat.le_add_right _ _, Nat.add_lt_add_left (by decide) _⟩ (by decide) (inb_in (by decide)) dX9_init_451 (fun H locs hW hS => ?_)
  refine lv_dup (pc := 452) hx hb dX9_init_452 rfl ?_
  refine lv_bipush (pc := 453) (v := 20) hx hb dX9_init_453 (by decide) ?_
  refine lv_bipush (pc := 455) (v := 101) hx hb dX9_init_455 (by decide) ?_
  refine a_iast (pc := 457) (k := 13) (i := 20) (j := 20) C hW hS (by decide) rfl ⟨Nat.le_add_right _ _, Nat.add_lt_add_left (by decide) _⟩ (by decide) (inb_in (by decide)) dX9_init_457 (fun H locs hW hS => ?_)
  refine lv_dup (pc := 458) hx hb dX9_init_458 rfl ?_
  refine lv_bipush (pc := 459) (v := 21) hx hb dX9_init_459 (by decide) ?_
  refine lv_bipush (pc := 461) (v := 115) hx hb dX9_init_461 (by decide) ?_
  refine a_iast (pc := 463) (k := 13) (i := 21) (j := 21) C hW hS (by decide) rfl ⟨Nat.le_add_right _ _, Nat.add_lt_add_left (by decide) _⟩ (by decide) (inb_in (by decide)) dX9_init_463 (fun H locs hW hS => ?_)
  refine lv_dup (pc := 464) hx hb dX9_init_464 rfl ?_
  refine lv_bipush (pc := 465) (v := 22) hx hb dX9_init_465 (by decide) ?_
  refine lv_bipush (pc := 467) (v := 32) hx hb dX9_init_467 (by decide) ?_
  refine a_iast (pc := 469) (k := 13) (i := 22) (j := 22) C hW hS (by decide) rfl ⟨Nat.le_add_right _ _, Nat.add_lt_add_left (by decide) _⟩ (by decide) (inb_in (by decide)) dX9_init_469 (fun H locs hW hS => ?_)
  refine lv_dup (pc := 470) hx hb dX9_init_470 rfl ?_
  refine lv_bipush (pc := 471) (v := 23) hx hb dX9_init_471 (by decide) ?_
  refine lv_bipush (pc := 473) (v := 32) hx hb dX9_init_473 (by decide) ?_
  refine a_iast (pc := 475) (k := 13) (i := 23) (j := 23) C hW hS (by decide) rfl ⟨Nat.le_add_right _ _, Nat.add_lt_add_left (by decide) _⟩ (by decide) (inb_in (by decide)) dX9_init_475 (fun H locs hW hS => ?_)
  refine lv_dup (pc := 476) hx hb dX9_init_476 rfl ?_
  refine lv_bipush (pc := 477) (v := 24) hx hb dX9_init_477 (by decide) ?_
  refine lv_bipush (pc := 479) (v := 98) hx hb dX9_init_479 (by decide) ?_
  refine a_iast (pc := 481) (k := 13) (i := 24) (j := 24) C hW hS (by decide) rfl ⟨Nat.le_add_right _ _, Nat.add_lt_add_left (by decide) _⟩ (by decide) (inb_in (by decide)) dX9_init_481 (fun H locs hW hS => ?_)
  refine lv_dup (pc := 482) hx hb dX9_init_482 rfl ?_
  refine lv_bipush (pc := 483) (v := 25) hx hb dX9_init_483 (by decide) ?_
  refine lv_bipush (pc := 485) (v := 101) hx hb dX9_init_485 (by decide) ?_
  refine a_iast (pc := 487) (k := 13) (i := 25) (j := 25) C hW hS (by decide) rfl ⟨Nat.le_add_right _ _, Nat.add_lt_add_left (by decide) _⟩ (by decide) (inb_in (by decide)) dX9_init_487 (fun H locs hW hS => ?_)
  refine lv_dup (pc := 488) hx hb dX9_init_488 rfl ?_
  refine lv_bipush (pc := 489) (v := 26) hx hb dX9_init_489 (by decide) ?_
  refine lv_bipush (pc := 491) (v := 97) hx hb dX9_init_491 (by decide) ?_
  refine a_iast (pc := 493) (k := 13) (i := 26) (j := 26) C hW hS (by decide) rfl ⟨Nat.le_add_right _ _, Nat.add_lt_add_left (by decide) _⟩ (by decide) (inb_in (by decide)) dX9_init_493 (fun H locs hW hS => ?_)
  refine lv_dup (pc := 494) hx hb dX9_init_494 rfl ?_
  refine lv_bipush (pc := 495) (v := 27) hx hb dX9_init_495 (by decide) ?_
  refine lv_bipush (pc := 497) (v := 114) hx hb dX9_init_497 (by decide) ?_
  refine a_iast (pc := 499) (k := 13) (i := 27) (j := 27) C hW hS (by decide) rfl ⟨Nat.le_add_right _ _, Nat.add_lt_add_left (by decide) _⟩ (by decide) (inb_in (by decide)) dX9_init_499 (fun H locs hW hS => ?_)
  refine lv_dup (pc := 500) hx hb dX9_init_500 rfl ?_
  refine lv_bipush (pc := 501) (v := 28) hx hb dX9_init_501 (by decide) ?_
  refine lv_bipush (pc := 503) (v := 100) hx hb dX9_init_503 (by decide) ?_
  refine a_iast (pc := 505) (k := 13) (i := 28) (j := 28) C hW hS (by decide) rfl ⟨Nat.le_add_right _ _, Nat.add_lt_add_left (by decide) _⟩ (by decide) (inb_in (by decide)) dX9_init_505 (fun H locs hW hS => ?_)
  refine lv_dup (pc := 506) hx hb dX9_init_506 rfl ?_
  refine lv_bipush (pc := 507) (v := 29) hx hb dX9_init_507 (by decide) ?_
  refine lv_bipush (pc := 509) (v := 32) hx hb dX9_init_509 (by decide) ?_
  refine a_iast (pc := 511) (k := 13) (i := 29) (j := 29) C hW hS (by decide) rfl ⟨Nat.le_add_right _ _, Nat.add_lt_add_left (by decide) _⟩ (by decide) (inb_in (by decide)) dX9_init_511 (fun H locs hW hS => ?_)
  refine lv_dup (pc := 512) hx hb dX9_init_512 rfl ?_
  refine lv_bipush (pc := 513) (v := 30) hx hb dX9_init_513 (by decide) ?_
  refine lv_bipush (pc := 515) (v := 32) hx hb dX9_init_515 (by decide) ?_
  refine a_iast (pc := 517) (k := 13) (i := 30) (j := 30) C hW hS (by decide) rfl ⟨Nat.le_add_right _ _, Nat.add_lt_add_left (by decide) _⟩ (by decide) (inb_in (by decide)) dX9_init_517 (fun H locs hW hS => ?_)
  refine lv_dup (pc := 518) hx hb dX9_init_518 rfl ?_
  refine lv_bipush (pc := 519) (v := 31) hx hb dX9_init_519 (by decide) ?_
  refine lv_bipush (pc := 521) (v := 32) hx hb dX9_init_521 (by decide) ?_
  refine a_iast (pc := 523) (k := 13) (i := 31) (j := 31) C hW hS (by decide) rfl ⟨Nat.le_add_right _ _, Nat.add_lt_add_left (by decide) _⟩ (by decide) (inb_in (by decide)) dX9_init_523 (fun H locs hW hS => ?_)
  refine lv_dup (pc := 524) hx hb dX9_init_524 rfl ?_
  refine lv_bipush (pc := 525) (v := 32) hx hb dX9_init_525 (by decide) ?_
  refine lv_bipush (pc := 527) (v := 111) hx hb dX9_init_527 (by decide) ?_
  refine a_iast (pc := 529) (k := 13) (i := 32) (j := 32) C hW hS (by decide) rfl ⟨Nat.le_add_right _ _, Nat.add_lt_add_left (by decide) _⟩ (by decide) (inb_in (by decide)) dX9_init_529 (fun H locs hW hS => ?_)
  refine lv_dup (pc := 530) hx hb dX9_init_530 rfl ?_
  refine lv_bipush (pc := 531) (v := 33) hx hb dX9_init_531 (by decide) ?_
  refine lv_bipush (pc := 533) (v := 105) hx hb dX9_init_533 (by decide) ?_
  refine a_iast (pc := 535) (k := 13) (i := 33) (j := 33) C hW hS (by decide) rfl ⟨Nat.le_add_right _ _, Nat.add_lt_add_left (by decide) _⟩ (by decide) (inb_in (by decide)) dX9_init_535 (fun H locs hW hS => ?_)
  refine lv_dup (pc := 536) hx hb dX9_init_536 rfl ?_
  refine lv_bipush (pc := 537) (v := 34) hx hb dX9_init_537 (by decide) ?_
  refine lv_bipush (pc := 539) (v := 108) hx hb dX9_init_539 (by decide) ?_
  refine a_iast (pc := 541) (k := 13) (i := 34) (j := 34) C hW hS (by decide) rfl ⟨Nat.le_add_right _ _, Nat.add_lt_add_left (by decide) _⟩ (by decide) (inb_in (by decide)) dX9_init_541 (fun H locs hW hS => ?_)
  refine lv_dup (pc := 542) hx hb dX9_init_542 rfl ?_
  refine lv_bipush (pc := 543) (v := 35) hx hb dX9_init_543 (by decide) ?_
  refine lv_bipush (pc := 545) (v := 32) hx hb dX9_init_545 (by decide) ?_
  refine a_iast (pc := 547) (k := 13) (i := 35) (j := 35) C hW hS (by decide) rfl ⟨Nat.le_add_right _ _, Nat.add_lt_add_left (by decide) _⟩ (by decide) (inb_in (by decide)) dX9_init_547 (fun H locs hW hS => ?_)
  refine lv_dup (pc := 548) hx hb dX9_init_548 rfl ?_
  refine lv_bipush (pc := 549) (v := 36) hx hb dX9_init_549 (by decide) ?_
  refine lv_bipush (pc := 551) (v := 32) hx hb dX9_init_551 (by decide) ?_
  refine a_iast (pc := 553) (k := 13) (i := 36) (j := 36) C hW hS (by decide) rfl ⟨Nat.le_add_right _ _, Nat.add_lt_add_left (by decide) _⟩ (by decide) (inb_in (by decide)) dX9_init_553 (fun H locs hW hS => ?_)
  refine lv_dup (pc := 554) hx hb dX9_init_554 rfl ?_
  refine lv_bipush (pc := 555) (v := 37) hx hb dX9_init_555 (by decide) ?_
  refine lv_bipush (pc := 557) (v := 32) hx hb dX9_init_557 (by decide) ?_
  refine a_iast (pc := 559) (k := 13) (i := 37) (j := 37) C hW hS (by decide) rfl ⟨Nat.le_add_right _ _, Nat.add_lt_add_left (by decide) _⟩ (by decide) (inb_in (by decide)) dX9_init_559 (fun H locs hW hS => ?_)
  refine lv_dup (pc := 560) hx hb dX9_init_560 rfl ?_
  refine lv_bipush (pc := 561) (v := 38) hx hb dX9_init_561 (by decide) ?_
  refine lv_bipush (pc := 563) (v := 32) hx hb dX9_init_563 (by decide) ?_
  refine a_iast (pc := 565) (k := 13) (i := 38) (j := 38) C hW hS (by decide) rfl ⟨Nat.le_add_right _ _, Nat.add_lt_add_left (by decide) _⟩ (by decide) (inb_in (by decide)) dX9_init_565 (fun H locs hW hS => ?_)
  refine lv_dup (pc := 566) hx hb dX9_init_566 rfl ?_
  refine lv_bipush (pc := 567) (v := 39) hx hb dX9_init_567 (by decide) ?_
  refine lv_bipush (pc := 569) (v := 32) hx hb dX9_init_569 (by decide) ?_
  refine a_iast (pc := 571) (k := 13) (i := 39) (j := 39) C hW hS (by decide) rfl ⟨Nat.le_add_right _ _, Nat.add_lt_add_left (by decide) _⟩ (by decide) (inb_in (by decide)) dX9_init_571 (fun H locs hW hS => ?_)
  refine lv_dup (pc := 572) hx hb dX9_init_572 rfl ?_
  refine lv_bipush (pc := 573) (v := 40) hx hb dX9_init_573 (by decide) ?_
  refine lv_bipush (pc := 575) (v := 109) hx hb dX9_init_575 (by decide) ?_
  refine a_iast (pc := 577) (k := 13) (i := 40) (j := 40) C hW hS (by decide) rfl ⟨Nat.le_add_right _ _, Nat.add_lt_add_left (by decide) _⟩ (by decide) (inb_in (by decide)) dX9_init_577 (fun H locs hW hS => ?_)
  refine lv_dup (pc := 578) hx hb dX9_init_578 rfl ?_
  refine lv_bipush (pc := 579) (v := 41) hx hb dX9_init_579 (by decide) ?_
  refine lv_bipush (pc := 581) (v := 111) hx hb dX9_init_581 (by decide) ?_
  refine a_iast (pc := 583) (k := 13) (i := 41) (j := 41) C hW hS (by decide) rfl ⟨Nat.le_add_right _ _, Nat.add_lt_add_left (by decide) _⟩ (by decide) (inb_in (by decide)) dX9_init_583 (fun H locs hW hS => ?_)
  refine lv_dup (pc := 584) hx hb dX9_init_584 rfl ?_
  refine lv_bipush (pc := 585) (v := 42) hx hb dX9_init_585 (by decide) ?_
  refine lv_bipush (pc := 587) (v := 114) hx hb dX9_init_587 (by decide) ?_
  refine a_iast (pc := 589) (k := 13) (i := 42) (j := 42) C hW hS (by decide) rfl ⟨Nat.le_add_right _ _, Nat.add_lt_add_left (by decide) _⟩ (by decide) (inb_in (by decide)) dX9_init_589 (fun H locs hW hS => ?_)
  refine lv_dup (pc := 590) hx hb dX9_init_590 rfl ?_
  refine lv_bipush (pc := 591) (v := 43) hx hb dX9_init_591 (by decide) ?_
  refine lv_bipush (pc := 593) (v := 101) hx hb dX9_init_593 (by decide) ?_
  refine a_iast (pc := 595) (k := 13) (i := 43) (j := 43) C hW hS (by decide) rfl ⟨Nat.le_add_right _ _, Nat.add_lt_add_left (by decide) _⟩ (by decide) (inb_in (by decide)) dX9_init_595 (fun H locs hW hS => ?_)
  refine lv_dup (pc := 596) hx hb dX9_init_596 rfl ?_
  refine lv_bipush (pc := 597) (v := 44) hx hb dX9_init_597 (by decide) ?_
  refine lv_bipush (pc := 599) (v := 32) hx hb dX9_init_599 (by decide) ?_
  refine a_iast (pc := 601) (k := 13) (i := 44) (j := 44) C hW hS (by decide) rfl ⟨Nat.le_add_right _ _, Nat.add_lt_add_left (by decide) _⟩ (by decide) (inb_in (by decide)) dX9_init_601 (fun H locs hW hS => ?_)
  refine lv_dup (pc := 602) hx hb dX9_init_602 rfl ?_
  refine lv_bipush (pc := 603) (v := 45) hx hb dX9_init_603 (by decide) ?_
  refine lv_bipush (pc := 605) (v := 32) hx hb dX9_init_605 (by decide) ?_
  refine a_iast (pc := 607) (k := 13) (i := 45) (j := 45) C hW hS (by decide) rfl ⟨Nat.le_add_right _ _, Nat.add_lt_add_left (by decide) _⟩ (by decide) (inb_in (by decide)) dX9_init_607 (fun H locs hW hS => ?_)
  refine lv_dup (pc := 608) hx hb dX9_init_608 rfl ?_
  refine lv_bipush (pc := 609) (v := 46) hx hb dX9_init_609 (by decide) ?_
  refine lv_bipush (pc := 611) (v := 32) hx hb dX9_init_611 (by decide) ?_
  refine a_iast (pc := 613) (k := 13) (i := 46) (j := 46) C hW hS (by decide) rfl ⟨Nat.le_add_right _ _, Nat.add_lt_add_left (by decide) _⟩ (by decide) (inb_in (by decide)) dX9_init_613 (fun H locs hW hS => ?_)
  refine lv_dup (pc := 614) hx hb dX9_init_614 rfl ?_
  refine lv_bipush (pc := 615) (v := 47) hx hb dX9_init_615 (by decide) ?_
  refine lv_bipush (pc := 617) (v := 32) hx hb dX9_init_617 (by decide) ?_
  refine a_iast (pc := 619) (k := 13) (i := 47) (j := 47) C hW hS (by decide) rfl ⟨Nat.le_add_right _ _, Nat.add_lt_add_left (by decide) _⟩ (by decide) (inb_in (by decide)) dX9_init_619 (fun H locs hW hS => ?_)
  refine lv_dup (pc := 620) hx hb dX9_init_620 rfl ?_
  refine lv_bipush (pc := 621) (v := 48) hx hb dX9_init_621 (by decide) ?_
  refine lv_bipush (pc := 623) (v := 119) hx hb dX9_init_623 (by decide) ?_
  refine a_iast (pc := 625) (k := 13) (i := 48) (j := 48) C hW hS (by decide) rfl ⟨Nat.le_add_right _ _, Nat.add_lt_add_left (by decide) _⟩ (by decide) (inb_in (by decide)) dX9_init_625 (fun H locs hW hS => ?_)
  refine lv_dup (pc := 626) hx hb dX9_init_626 rfl ?_
  refine lv_bipush (pc := 627) (v := 49) hx hb dX9_init_627 (by decide) ?_
  refine lv_bipush (pc := 629) (v := 101) hx hb dX9_init_629 (by decide) ?_
  refine a_iast (pc := 631) (k := 13) (i := 49) (j := 49) C hW hS (by decide) rfl ⟨Nat.le_add_right _ _, Nat.add_lt_add_left (by decide) _⟩ (by decide) (inb_in (by decide)) dX9_init_631 (fun H locs hW hS => ?_)
  refine lv_dup (pc := 632) hx hb dX9_init_632 rfl ?_
  refine lv_bipush (pc := 633) (v := 50) hx hb dX9_init_633 (by decide) ?_
  refine lv_bipush (pc := 635) (v := 101) hx hb dX9_init_635 (by decide) ?_
  refine a_iast (pc := 637) (k := 13) (i := 50) (j := 50) C hW hS (by decide) rfl ⟨Nat.le_add_right _ _, Nat.add_lt_add_left (by decide) _⟩ (by decide) (inb_in (by decide)) dX9_init_637 (fun H locs hW hS => ?_)
  refine lv_dup (pc := 638) hx hb dX9_init_638 rfl ?_
  refine lv_bipush (pc := 639) (v := 51) hx hb dX9_init_639 (by decide) ?_
  refine lv_bipush (pc := 641) (v := 107) hx hb dX9_init_641 (by decide) ?_
  refine a_iast (pc := 643) (k := 13) (i := 51) (j := 51) C hW hS (by decide) rfl ⟨Nat.le_add_right _ _, Nat.add_lt_add_left (by decide) _⟩ (by decide) (inb_in (by decide)) dX9_init_643 (fun H locs hW hS => ?_)
  refine lv_dup (pc := 644) hx hb dX9_init_644 rfl ?_
  refine lv_bipush (pc := 645) (v := 52) hx hb dX9_init_645 (by decide) ?_
  refine lv_bipush (pc := 647) (v := 32) hx hb dX9_init_647 (by decide) ?_
  refine a_iast (pc := 649) (k := 13) (i := 52) (j := 52) C hW hS (by decide) rfl ⟨Nat.le_add_right _ _, Nat.add_lt_add_left (by decide) _⟩ (by decide) (inb_in (by decide)) dX9_init_649 (fun H locs hW hS => ?_)
  refine lv_dup (pc := 650) hx hb dX9_init_650 rfl ?_
  refine lv_bipush (pc := 651) (v := 53) hx hb dX9_init_651 (by decide) ?_
  refine lv_bipush (pc := 653) (v := 32) hx hb dX9_init_653 (by decide) ?_
  refine a_iast (pc := 655) (k := 13) (i := 53) (j := 53) C hW hS (by decide) rfl ⟨Nat.le_add_right _ _, Nat.add_lt_add_left (by decide) _⟩ (by decide) (inb_in (by decide)) dX9_init_655 (fun H locs hW hS => ?_)
  replace hW : Wg D (z + 80) 14 (rx2 z ac) H := ⟨hW.1, fun q hq => by
    have h := hW.2 q hq
    revert h
    have hc : q = 0 ∨ q = 1 ∨ q = 2 ∨ q = 3 ∨ q = 4 ∨ q = 5 ∨ q = 6 ∨ q = 7 ∨ q = 8 ∨ q = 9 ∨ q = 10 ∨ q = 11 ∨ q = 12 ∨ q = 13 := by omega
    rcases hc with rfl | rfl | rfl | rfl | rfl | rfl | rfl | rfl | rfl | rfl | rfl | rfl | rfl | rfl
    · exact id
    · refine at_ints (cA := ac 0) (N := 6) ?_ _ _
      decide +kernel
    · refine at_ints (cA := ac 0) (N := 6) ?_ _ _
      decide +kernel
    · refine at_ints (cA := ac 0) (N := 24) ?_ _ _
      decide +kernel
    · refine at_ints (cA := ac 0) (N := 48) ?_ _ _
      decide +kernel
    · refine at_ints (cA := ac 0) (N := 160) ?_ _ _
      decide +kernel
    · refine at_ints (cA := ac 0) (N := 1200) ?_ _ _
      decide +kernel
    · refine at_ints (cA := ac 0) (N := 24) ?_ _ _
      decide +kernel
    · refine at_ints (cA := ac 0) (N := 72) ?_ _ _
      decide +kernel
    · refine at_ints (cA := ac 0) (N := 4) ?_ _ _
      decide +kernel
    · refine at_ints (cA := ac 0) (N := 4) ?_ _ _
      decide +kernel
    · refine at_ints (cA := ac 0) (N := 160) ?_ _ _
      decide +kernel
    · refine at_ints (cA := ac 0) (N := 37) ?_ _ _
      decide +kernel
    · refine at_ints (cA := ac 0) (N := 96) ?_ _ _
      decide +kernel
    ⟩
  refine lv_dup (pc := 656) hx hb dX9_init_656 rfl ?_
  refine lv_bipush (pc := 657) (v := 54) hx hb dX9_init_657 (by decide) ?_
  refine lv_bipush (pc := 659) (v := 32) hx hb dX9_init_659 (by decide) ?_
  refine a_iast (pc := 661) (k := 13) (i := 54) (j := 54) C hW hS (by decide) rfl ⟨Nat.le_add_right _ _, Nat.add_lt_add_left (by decide) _⟩ (by decide) (inb_in (by decide)) dX9_init_661 (fun H locs hW hS => ?_)
  refine lv_dup (pc := 662) hx hb dX9_init_662 rfl ?_
  refine lv_bipush (pc := 663) (v := 55) hx hb dX9_init_663 (by decide) ?_
  refine lv_bipush (pc := 665) (v := 32) hx hb dX9_init_665 (by decide) ?_
  refine a_iast (pc := 667) (k := 13) (i := 55) (j := 55) C hW hS (by decide) rfl ⟨Nat.le_add_right _ _, Nat.add_lt_add_left (by decide) _⟩ (by decide) (inb_in (by decide)) dX9_init_667 (fun H locs hW hS => ?_)
  refine lv_dup (pc := 668) hx hb dX9_init_668 rfl ?_
  refine lv_bipush (pc := 669) (v := 56) hx hb dX9_init_669 (by decide) ?_
  refine lv_bipush (pc := 671) (v := 111) hx hb dX9_init_671 (by decide) ?_
  refine a_iast (pc := 673) (k := 13) (i := 56) (j := 56) C hW hS (by decide) rfl ⟨Nat.le_add_right _ _, Nat.add_lt_add_left (by decide) _⟩ (by decide) (inb_in (by decide)) dX9_init_673 (fun H locs hW hS => ?_)
  refine lv_dup (pc := 674) hx hb dX9_init_674 rfl ?_
  refine lv_bipush (pc := 675) (v := 57) hx hb dX9_init_675 (by decide) ?_
  refine lv_bipush (pc := 677) (v := 119) hx hb dX9_init_677 (by decide) ?_
  refine a_iast (pc := 679) (k := 13) (i := 57) (j := 57) C hW hS (by decide) rfl ⟨Nat.le_add_right _ _, Nat.add_lt_add_left (by decide) _⟩ (by decide) (inb_in (by decide)) dX9_init_679 (fun H locs hW hS => ?_)
  refine lv_dup (pc := 680) hx hb dX9_init_680 rfl ?_
  refine lv_bipush (pc := 681) (v := 58) hx hb dX9_init_681 (by decide) ?_
  refine lv_bipush (pc := 683) (v := 101) hx hb dX9_init_683 (by decide) ?_
  refine a_iast (pc := 685) (k := 13) (i := 58) (j := 58) C hW hS (by decide) rfl ⟨Nat.le_add_right _ _, Nat.add_lt_add_left (by decide) _⟩ (by decide) (inb_in (by decide)) dX9_init_685 (fun H locs hW hS => ?_)
  refine lv_dup (pc := 686) hx hb dX9_init_686 rfl ?_
  refine lv_bipush (pc := 687) (v := 59) hx hb dX9_init_687 (by decide) ?_
  refine lv_bipush (pc := 689) (v := 100) hx hb dX9_init_689 (by decide) ?_
  refine a_iast (pc := 691) (k := 13) (i := 59) (j := 59) C hW hS (by decide) rfl ⟨Nat.le_add_right _ _, Nat.add_lt_add_left (by decide) _⟩ (by decide) (inb_in (by decide)) dX9_init_691 (fun H locs hW hS => ?_)
  refine lv_dup (pc := 692) hx hb dX9_init_692 rfl ?_
  refine lv_bipush (pc := 693) (v := 60) hx hb dX9_init_693 (by decide) ?_
  refine lv_bipush (pc := 695) (v := 32) hx hb dX9_init_695 (by decide) ?_
  refine a_iast (pc := 697) (k := 13) (i := 60) (j := 60) C hW hS (by decide) rfl ⟨Nat.le_add_right _ _, Nat.add_lt_add_left (by decide) _⟩ (by decide) (inb_in (by decide)) dX9_init_697 (fun H locs hW hS => ?_)
  refine lv_dup (pc := 698) hx hb dX9_init_698 rfl ?_
  refine lv_bipush (pc := 699) (v := 61) hx hb dX9_init_699 (by decide) ?_
  refine lv_bipush (pc := 701) (v := 32) hx hb dX9_init_701 (by decide) ?_
  refine a_iast (pc := 703) (k := 13) (i := 61) (j := 61) C hW hS (by decide) rfl ⟨Nat.le_add_right _ _, Nat.add_lt_add_left (by decide) _⟩ (by decide) (inb_in (by decide)) dX9_init_703 (fun H locs hW hS => ?_)
  refine lv_dup (pc := 704) hx hb dX9_init_704 rfl ?_
  refine lv_bipush (pc := 705) (v := 62) hx hb dX9_init_705 (by decide) ?_
  refine lv_bipush (pc := 707) (v := 32) hx hb dX9_init_707 (by decide) ?_
  refine a_iast (pc := 709) (k := 13) (i := 62) (j := 62) C hW hS (by decide) rfl ⟨Nat.le_add_right _ _, Nat.add_lt_add_left (by decide) _⟩ (by decide) (inb_in (by decide)) dX9_init_709 (fun H locs hW hS => ?_)
  refine lv_dup (pc := 710) hx hb dX9_init_710 rfl ?_
  refine lv_bipush (pc := 711) (v := 63) hx hb dX9_init_711 (by decide) ?_
  refine lv_bipush (pc := 713) (v := 32) hx hb dX9_init_713 (by decide) ?_
  refine a_iast (pc := 715) (k := 13) (i := 63) (j := 63) C hW hS (by decide) rfl ⟨Nat.le_add_right _ _, Nat.add_lt_add_left (by decide) _⟩ (by decide) (inb_in (by decide)) dX9_init_715 (fun H locs hW hS => ?_)
  refine lv_dup (pc := 716) hx hb dX9_init_716 rfl ?_
  refine lv_bipush (pc := 717) (v := 64) hx hb dX9_init_717 (by decide) ?_
  refine lv_bipush (pc := 719) (v := 114) hx hb dX9_init_719 (by decide) ?_
  refine a_iast (pc := 721) (k := 13) (i := 64) (j := 64) C hW hS (by decide) rfl ⟨Nat.le_add_right _ _, Nat.add_lt_add_left (by decide) _⟩ (by decide) (inb_in (by decide)) dX9_init_721 (fun H locs hW hS => ?_)
  refine lv_dup (pc := 722) hx hb dX9_init_722 rfl ?_
  refine lv_bipush (pc := 723) (v := 65) hx hb dX9_init_723 (by decide) ?_
  refine lv_bipush (pc := 725) (v := 97) hx hb dX9_init_725 (by decide) ?_
  refine a_iast (pc := 727) (k := 13) (i := 65) (j := 65) C hW hS (by decide) rfl ⟨Nat.le_add_right _ _, Nat.add_lt_add_left (by decide) _⟩ (by decide) (inb_in (by decide)) dX9_init_727 (fun H locs hW hS => ?_)
  refine lv_dup (pc := 728) hx hb dX9_init_728 rfl ?_
  refine lv_bipush (pc := 729) (v := 66) hx hb dX9_init_729 (by decide) ?_
  refine lv_bipush (pc := 731) (v := 110) hx hb dX9_init_731 (by decide) ?_
  refine a_iast (pc := 733) (k := 13) (i := 66) (j := 66) C hW hS (by decide) rfl ⟨Nat.le_add_right _ _, Nat.add_lt_add_left (by decide) _⟩ (by decide) (inb_in (by decide)) dX9_init_733 (fun H locs hW hS => ?_)
  refine lv_dup (pc := 734) hx hb dX9_init_734 rfl ?_
  refine lv_bipush (pc := 735) (v := 67) hx hb dX9_init_735 (by decide) ?_
  refine lv_bipush (pc := 737) (v := 107) hx hb dX9_init_737 (by decide) ?_
  refine a_iast (pc := 739) (k := 13) (i := 67) (j := 67) C hW hS (by decide) rfl ⟨Nat.le_add_right _ _, Nat.add_lt_add_left (by decide) _⟩ (by decide) (inb_in (by decide)) dX9_init_739 (fun H locs hW hS => ?_)
  refine lv_dup (pc := 740) hx hb dX9_init_740 rfl ?_
  refine lv_bipush (pc := 741) (v := 68) hx hb dX9_init_741 (by decide) ?_
  refine lv_bipush (pc := 743) (v := 32) hx hb dX9_init_743 (by decide) ?_
  refine a_iast (pc := 745) (k := 13) (i := 68) (j := 68) C hW hS (by decide) rfl ⟨Nat.le_add_right _ _, Nat.add_lt_add_left (by decide) _⟩ (by decide) (inb_in (by decide)) dX9_init_745 (fun H locs hW hS => ?_)
  refine lv_dup (pc := 746) hx hb dX9_init_746 rfl ?_
  refine lv_bipush (pc := 747) (v := 69) hx hb dX9_init_747 (by decide) ?_
  refine lv_bipush (pc := 749) (v := 32) hx hb dX9_init_749 (by decide) ?_
  refine a_iast (pc := 751) (k := 13) (i := 69) (j := 69) C hW hS (by decide) rfl ⟨Nat.le_add_right _ _, Nat.add_lt_add_left (by decide) _⟩ (by decide) (inb_in (by decide)) dX9_init_751 (fun H locs hW hS => ?_)
  refine lv_dup (pc := 752) hx hb dX9_init_752 rfl ?_
  refine lv_bipush (pc := 753) (v := 70) hx hb dX9_init_753 (by decide) ?_
  refine lv_bipush (pc := 755) (v := 32) hx hb dX9_init_755 (by decide) ?_
  refine a_iast (pc := 757) (k := 13) (i := 70) (j := 70) C hW hS (by decide) rfl ⟨Nat.le_add_right _ _, Nat.add_lt_add_left (by decide) _⟩ (by decide) (inb_in (by decide)) dX9_init_757 (fun H locs hW hS => ?_)
  refine lv_dup (pc := 758) hx hb dX9_init_758 rfl ?_
  refine lv_bipush (pc := 759) (v := 71) hx hb dX9_init_759 (by decide) ?_
  refine lv_bipush (pc := 761) (v := 32) hx hb dX9_init_761 (by decide) ?_
  refine a_iast (pc := 763) (k := 13) (i := 71) (j := 71) C hW hS (by decide) rfl ⟨Nat.le_add_right _ _, Nat.add_lt_add_left (by decide) _⟩ (by decide) (inb_in (by decide)) dX9_init_763 (fun H locs hW hS => ?_)
  refine lv_dup (pc := 764) hx hb dX9_init_764 rfl ?_
  refine lv_bipush (pc := 765) (v := 72) hx hb dX9_init_765 (by decide) ?_
  refine lv_bipush (pc := 767) (v := 111) hx hb dX9_init_767 (by decide) ?_
  refine a_iast (pc := 769) (k := 13) (i := 72) (j := 72) C hW hS (by decide) rfl ⟨Nat.le_add_right _ _, Nat.add_lt_add_left (by decide) _⟩ (by decide) (inb_in (by decide)) dX9_init_769 (fun H locs hW hS => ?_)
  refine lv_dup (pc := 770) hx hb dX9_init_770 rfl ?_
  refine lv_bipush (pc := 771) (v := 73) hx hb dX9_init_771 (by decide) ?_
  refine lv_bipush (pc := 773) (v := 114) hx hb dX9_init_773 (by decide) ?_
  refine a_iast (pc := 775) (k := 13) (i := 73) (j := 73) C hW hS (by decide) rfl ⟨Nat.le_add_right _ _, Nat.add_lt_add_left (by decide) _⟩ (by decide) (inb_in (by decide)) dX9_init_775 (fun H locs hW hS => ?_)
  refine lv_dup (pc := 776) hx hb dX9_init_776 rfl ?_
  refine lv_bipush (pc := 777) (v := 74) hx hb dX9_init_777 (by decide) ?_
  refine lv_bipush (pc := 779) (v := 32) hx hb dX9_init_779 (by decide) ?_
  refine a_iast (pc := 781) (k := 13) (i := 74) (j := 74) C hW hS (by decide) rfl ⟨Nat.le_add_right _ _, Nat.add_lt_add_left (by decide) _⟩ (by decide) (inb_in (by decide)) dX9_init_781 (fun H locs hW hS => ?_)
  refine lv_dup (pc := 782) hx hb dX9_init_782 rfl ?_
  refine lv_bipush (pc := 783) (v := 75) hx hb dX9_init_783 (by decide) ?_
  refine lv_bipush (pc := 785) (v := 32) hx hb dX9_init_785 (by decide) ?_
  refine a_iast (pc := 787) (k := 13) (i := 75) (j := 75) C hW hS (by decide) rfl ⟨Nat.le_add_right _ _, Nat.add_lt_add_left (by decide) _⟩ (by decide) (inb_in (by decide)) dX9_init_787 (fun H locs hW hS => ?_)
  refine lv_dup (pc := 788) hx hb dX9_init_788 rfl ?_
  refine lv_bipush (pc := 789) (v := 76) hx hb dX9_init_789 (by decide) ?_
  refine lv_bipush (pc := 791) (v := 32) hx hb dX9_init_791 (by decide) ?_
  refine a_iast (pc := 793) (k := 13) (i := 76) (j := 76) C hW hS (by decide) rfl ⟨Nat.le_add_right _ _, Nat.add_lt_add_left (by decide) _⟩ (by decide) (inb_in (by decide)) dX9_init_793 (fun H locs hW hS => ?_)
  refine lv_dup (pc := 794) hx hb dX9_init_794 rfl ?_
  refine lv_bipush (pc := 795) (v := 77) hx hb dX9_init_795 (by decide) ?_
  refine lv_bipush (pc := 797) (v := 32) hx hb dX9_init_797 (by decide) ?_
  refine a_iast (pc := 799) (k := 13) (i := 77) (j := 77) C hW hS (by decide) rfl ⟨Nat.le_add_right _ _, Nat.add_lt_add_left (by decide) _⟩ (by decide) (inb_in (by decide)) dX9_init_799 (fun H locs hW hS => ?_)
  refine lv_dup (pc := 800) hx hb dX9_init_800 rfl ?_
  refine lv_bipush (pc := 801) (v := 78) hx hb dX9_init_801 (by decide) ?_
  refine lv_bipush (pc := 803) (v := 32) hx hb dX9_init_803 (by decide) ?_
  refine a_iast (pc := 805) (k := 13) (i := 78) (j := 78) C hW hS (by decide) rfl ⟨Nat.le_add_right _ _, Nat.add_lt_add_left (by decide) _⟩ (by decide) (inb_in (by decide)) dX9_init_805 (fun H locs hW hS => ?_)
  refine lv_dup (pc := 806) hx hb dX9_init_806 rfl ?_
  refine lv_bipush (pc := 807) (v := 79) hx hb dX9_init_807 (by decide) ?_
  refine lv_bipush (pc := 809) (v := 32) hx hb dX9_init_809 (by decide) ?_
  refine a_iast (pc := 811) (k := 13) (i := 79) (j := 79) C hW hS (by decide) rfl ⟨Nat.le_add_right _ _, Nat.add_lt_add_left (by decide) _⟩ (by decide) (inb_in (by decide)) dX9_init_811 (fun H locs hW hS => ?_)
  refine lv_dup (pc := 812) hx hb dX9_init_812 rfl ?_
  refine lv_bipush (pc := 813) (v := 80) hx hb dX9_init_813 (by decide) ?_
  refine lv_bipush (pc := 815) (v := 97) hx hb dX9_init_815 (by decide) ?_
  refine a_iast (pc := 817) (k := 13) (i := 80) (j := 80) C hW hS (by decide) rfl ⟨Nat.le_add_right _ _, Nat.add_lt_add_left (by decide) _⟩ (by decide) (inb_in (by decide)) dX9_init_817 (fun H locs hW hS => ?_)
  refine lv_dup (pc := 818) hx hb dX9_init_818 rfl ?_
  refine lv_bipush (pc := 819) (v := 81) hx hb dX9_init_819 (by decide) ?_
  refine lv_bipush (pc := 821) (v := 110) hx hb dX9_init_821 (by decide) ?_
  refine a_iast (pc := 823) (k := 13) (i := 81) (j := 81) C hW hS (by decide) rfl ⟨Nat.le_add_right _ _, Nat.add_lt_add_left (by decide) _⟩ (by decide) (inb_in (by decide)) dX9_init_823 (fun H locs hW hS => ?_)
  refine lv_dup (pc := 824) hx hb dX9_init_824 rfl ?_
  refine lv_bipush (pc := 825) (v := 82) hx hb dX9_init_825 (by decide) ?_
  refine lv_bipush (pc := 827) (v := 100) hx hb dX9_init_827 (by decide) ?_
  refine a_iast (pc := 829) (k := 13) (i := 82) (j := 82) C hW hS (by decide) rfl ⟨Nat.le_add_right _ _, Nat.add_lt_add_left (by decide) _⟩ (by decide) (inb_in (by decide)) dX9_init_829 (fun H locs hW hS => ?_)
  refine lv_dup (pc := 830) hx hb dX9_init_830 rfl ?_
  refine lv_bipush (pc := 831) (v := 83) hx hb dX9_init_831 (by decide) ?_
  refine lv_bipush (pc := 833) (v := 32) hx hb dX9_init_833 (by decide) ?_
  refine a_iast (pc := 835) (k := 13) (i := 83) (j := 83) C hW hS (by decide) rfl ⟨Nat.le_add_right _ _, Nat.add_lt_add_left (by decide) _⟩ (by decide) (inb_in (by decide)) dX9_init_835 (fun H locs hW hS => ?_)
  refine lv_dup (pc := 836) hx hb dX9_init_836 rfl ?_
  refine lv_bipush (pc := 837) (v := 84) hx hb dX9_init_837 (by decide) ?_
  refine lv_bipush (pc := 839) (v := 32) hx hb dX9_init_839 (by decide) ?_
  refine a_iast (pc := 841) (k := 13) (i := 84) (j := 84) C hW hS (by decide) rfl ⟨Nat.le_add_right _ _, Nat.add_lt_add_left (by decide) _⟩ (by decide) (inb_in (by decide)) dX9_init_841 (fun H locs hW hS => ?_)
  refine lv_dup (pc := 842) hx hb dX9_init_842 rfl ?_
  refine lv_bipush (pc := 843) (v := 85) hx hb dX9_init_843 (by decide) ?_
  refine lv_bipush (pc := 845) (v := 32) hx hb dX9_init_845 (by decide) ?_
  refine a_iast (pc := 847) (k := 13) (i := 85) (j := 85) C hW hS (by decide) rfl ⟨Nat.le_add_right _ _, Nat.add_lt_add_left (by decide) _⟩ (by decide) (inb_in (by decide)) dX9_init_847 (fun H locs hW hS => ?_)
  refine lv_dup (pc := 848) hx hb dX9_init_848 rfl ?_
  refine lv_bipush (pc := 849) (v := 86) hx hb dX9_init_849 (by decide) ?_
  refine lv_bipush (pc := 851) (v := 32) hx hb dX9_init_851 (by decide) ?_
  refine a_iast (pc := 853) (k := 13) (i := 86) (j := 86) C hW hS (by decide) rfl ⟨Nat.le_add_right _ _, Nat.add_lt_add_left (by decide) _⟩ (by decide) (inb_in (by decide)) dX9_init_853 (fun H locs hW hS => ?_)
  refine lv_dup (pc := 854) hx hb dX9_init_854 rfl ?_
  refine lv_bipush (pc := 855) (v := 87) hx hb dX9_init_855 (by decide) ?_
  refine lv_bipush (pc := 857) (v := 32) hx hb dX9_init_857 (by decide) ?_
  refine a_iast (pc := 859) (k := 13) (i := 87) (j := 87) C hW hS (by decide) rfl ⟨Nat.le_add_right _ _, Nat.add_lt_add_left (by decide) _⟩ (by decide) (inb_in (by decide)) dX9_init_859 (fun H locs hW hS => ?_)
  refine lv_dup (pc := 860) hx hb dX9_init_860 rfl ?_
  refine lv_bipush (pc := 861) (v := 88) hx hb dX9_init_861 (by decide) ?_
  refine lv_bipush (pc := 863) (v := 110) hx hb dX9_init_863 (by decide) ?_
  refine a_iast (pc := 865) (k := 13) (i := 88) (j := 88) C hW hS (by decide) rfl ⟨Nat.le_add_right _ _, Nat.add_lt_add_left (by decide) _⟩ (by decide) (inb_in (by decide)) dX9_init_865 (fun H locs hW hS => ?_)
  refine lv_dup (pc := 866) hx hb dX9_init_866 rfl ?_
  refine lv_bipush (pc := 867) (v := 89) hx hb dX9_init_867 (by decide) ?_
  refine lv_bipush (pc := 869) (v := 111) hx hb dX9_init_869 (by decide) ?_
  refine a_iast (pc := 871) (k := 13) (i := 89) (j := 89) C hW hS (by decide) rfl ⟨Nat.le_add_right _ _, Nat.add_lt_add_left (by decide) _⟩ (by decide) (inb_in (by decide)) dX9_init_871 (fun H locs hW hS => ?_)
  refine lv_dup (pc := 872) hx hb dX9_init_872 rfl ?_
  refine lv_bipush (pc := 873) (v := 90) hx hb dX9_init_873 (by decide) ?_
  refine lv_bipush (pc := 875) (v := 116) hx hb dX9_init_875 (by decide) ?_
  refine a_iast (pc := 877) (k := 13) (i := 90) (j := 90) C hW hS (by decide) rfl ⟨Nat.le_add_right _ _, Nat.add_lt_add_left (by decide) _⟩ (by decide) (inb_in (by decide)) dX9_init_877 (fun H locs hW hS => ?_)
  refine lv_dup (pc := 878) hx hb dX9_init_878 rfl ?_
  refine lv_bipush (pc := 879) (v := 91) hx hb dX9_init_879 (by decide) ?_
  refine lv_bipush (pc := 881) (v := 32) hx hb dX9_init_881 (by decide) ?_
  refine a_iast (pc := 883) (k := 13) (i := 91) (j := 91) C hW hS (by decide) rfl ⟨Nat.le_add_right _ _, Nat.add_lt_add_left (by decide) _⟩ (by decide) (inb_in (by decide)) dX9_init_883 (fun H locs hW hS => ?_)
  refine lv_dup (pc := 884) hx hb dX9_init_884 rfl ?_
  refine lv_bipush (pc := 885) (v := 92) hx hb dX9_init_885 (by decide) ?_
  refine lv_bipush (pc := 887) (v := 32) hx hb dX9_init_887 (by decide) ?_
  refine a_iast (pc := 889) (k := 13) (i := 92) (j := 92) C hW hS (by decide) rfl ⟨Nat.le_add_right _ _, Nat.add_lt_add_left (by decide) _⟩ (by decide) (inb_in (by decide)) dX9_init_889 (fun H locs hW hS => ?_)
  refine lv_dup (pc := 890) hx hb dX9_init_890 rfl ?_
  refine lv_bipush (pc := 891) (v := 93) hx hb dX9_init_891 (by decide) ?_
  refine lv_bipush (pc := 893) (v := 32) hx hb dX9_init_893 (by decide) ?_
  refine a_iast (pc := 895) (k := 13) (i := 93) (j := 93) C hW hS (by decide) rfl ⟨Nat.le_add_right _ _, Nat.add_lt_add_left (by decide) _⟩ (by decide) (inb_in (by decide)) dX9_init_895 (fun H locs hW hS => ?_)
  replace hW : Wg D (z + 80) 14 (rx3 z ac) H := ⟨hW.1, fun q hq => by
    have h := hW.2 q hq
    revert h
    have hc : q = 0 ∨ q = 1 ∨ q = 2 ∨ q = 3 ∨ q = 4 ∨ q = 5 ∨ q = 6 ∨ q = 7 ∨ q = 8 ∨ q = 9 ∨ q = 10 ∨ q = 11 ∨ q = 12 ∨ q = 13 := by omega
    rcases hc with rfl | rfl | rfl | rfl | rfl | rfl | rfl | rfl | rfl | rfl | rfl | rfl | rfl | rfl
    · exact id
    · refine at_ints (cA := ac 0) (N := 6) ?_ _ _
      decide +kernel
    · refine at_ints (cA := ac 0) (N := 6) ?_ _ _
      decide +kernel
    · refine at_ints (cA := ac 0) (N := 24) ?_ _ _
      decide +kernel
    · refine at_ints (cA := ac 0) (N := 48) ?_ _ _
      decide +kernel
    · refine at_ints (cA := ac 0) (N := 160) ?_ _ _
      decide +kernel
    · refine at_ints (cA := ac 0) (N := 1200) ?_ _ _
      decide +kernel
    · refine at_ints (cA := ac 0) (N := 24) ?_ _ _
      decide +kernel
    · refine at_ints (cA := ac 0) (N := 72) ?_ _ _
      decide +kernel
    · refine at_ints (cA := ac 0) (N := 4) ?_ _ _
      decide +kernel
    · refine at_ints (cA := ac 0) (N := 4) ?_ _ _
      decide +kernel
    · refine at_ints (cA := ac 0) (N := 160) ?_ _ _
      decide +kernel
    · refine at_ints (cA := ac 0) (N := 37) ?_ _ _
      decide +kernel
    · refine at_ints (cA := ac 0) (N := 96) ?_ _ _
      decide +kernel
    ⟩
  refine lv_dup (pc := 896) hx hb dX9_init_896 rfl ?_
  refine lv_bipush (pc := 897) (v := 94) hx hb dX9_init_897 (by decide) ?_
  refine lv_bipush (pc := 899) (v := 32) hx hb dX9_init_899 (by decide) ?_
  refine a_iast (pc := 901) (k := 13) (i := 94) (j := 94) C hW hS (by decide) rfl ⟨Nat.le_add_right _ _, Nat.add_lt_add_left (by decide) _⟩ (by decide) (inb_in (by decide)) dX9_init_901 (fun H locs hW hS => ?_)
  refine lv_dup (pc := 902) hx hb dX9_init_902 rfl ?_
  refine lv_bipush (pc := 903) (v := 95) hx hb dX9_init_903 (by decide) ?_
  refine lv_bipush (pc := 905) (v := 32) hx hb dX9_init_905 (by decide) ?_
  refine a_iast (pc := 907) (k := 13) (i := 95) (j := 95) C hW hS (by decide) rfl ⟨Nat.le_add_right _ _, Nat.add_lt_add_left (by decide) _⟩ (by decide) (inb_in (by decide)) dX9_init_907 (fun H locs hW hS => ?_)
  refine a_putF (pc := 908) (k := 0) (ci := 9) C hW hS tyX9 (by decide) rfl ⟨Nat.le_add_right _ _, Nat.add_lt_add_left (by decide) _⟩ rfl lays_X9 tyX9_ok nmX9 27 (by decide) fm_X9_46 rfl hin rfl (x := .ref ((z + 80) + 13)) rfl rfl (Nat.le_of_ble_eq_true rfl) dX9_init_908 (fun H locs hW hS => ?_)
  refine lv_aload_n (pc := 911) hx hb dX9_init_911 rfl (lv_at hl 0 rfl) ?_
  refine lv_sipush (pc := 912) (v := 200) hx hb dX9_init_912 (by decide) ?_
  refine a_newa (pc := 915) (n := 14) (n1 := 15) (N := 200) C hW hS ai_tb (by decide) (by decide) (by decide) rfl (Nat.le_of_ble_eq_true rfl) (Nat.le_of_ble_eq_true rfl) dX9_init_915 (fun H hW hS => ?_)
  refine a_putF (pc := 917) (k := 0) (ci := 9) C hW hS tyX9 (by decide) rfl ⟨Nat.le_add_right _ _, Nat.add_lt_add_left (by decide) _⟩ rfl lays_X9 tyX9_ok nmX9 28 (by decide) fm_X9_49 rfl hin rfl (x := .ref ((z + 80) + 14)) rfl rfl (Nat.le_of_ble_eq_true rfl) dX9_init_917 (fun H locs hW hS => ?_)
  refine lv_aload_n (pc := 920) hx hb dX9_init_920 rfl (lv_at hl 0 rfl) ?_
  refine lv_sipush (pc := 921) (v := 200) hx hb dX9_init_921 (by decide) ?_
  refine a_newa (pc := 924) (n := 15) (n1 := 16) (N := 200) C hW hS ai_tb (by decide) (by decide) (by decide) rfl (Nat.le_of_ble_eq_true rfl) (Nat.le_of_ble_eq_true rfl) dX9_init_924 (fun H hW hS => ?_)
  refine a_putF (pc := 926) (k := 0) (ci := 9) C hW hS tyX9 (by decide) rfl ⟨Nat.le_add_right _ _, Nat.add_lt_add_left (by decide) _⟩ rfl lays_X9 tyX9_ok nmX9 32 (by decide) fm_X9_52 rfl hin rfl (x := .ref ((z + 80) + 15)) rfl rfl (Nat.le_of_ble_eq_true rfl) dX9_init_926 (fun H locs hW hS => ?_)
  refine lv_aload_n (pc := 929) hx hb dX9_init_929 rfl (lv_at hl 0 rfl) ?_
  refine lv_bipush (pc := 930) (v := 6) hx hb dX9_init_930 (by decide) ?_
  refine a_newa (pc := 932) (n := 16) (n1 := 17) (N := 6) C hW hS ai_tb (by decide) (by decide) (by decide) rfl (Nat.le_of_ble_eq_true rfl) (Nat.le_of_ble_eq_true rfl) dX9_init_932 (fun H hW hS => ?_)
  refine a_putF (pc := 934) (k := 0) (ci := 9) C hW hS tyX9 (by decide) rfl ⟨Nat.le_add_right _ _, Nat.add_lt_add_left (by decide) _⟩ rfl lays_X9 tyX9_ok nmX9 33 (by decide) fm_X9_55 rfl hin rfl (x := .ref ((z + 80) + 16)) rfl rfl (Nat.le_of_ble_eq_true rfl) dX9_init_934 (fun H locs hW hS => ?_)
  refine lv_aload_n (pc := 937) hx hb dX9_init_937 rfl (lv_at hl 0 rfl) ?_
  refine lv_bipush (pc := 938) (v := 72) hx hb dX9_init_938 (by decide) ?_
  refine a_newa (pc := 940) (n := 17) (n1 := 18) (N := 72) C hW hS ai_tb (by decide) (by decide) (by decide) rfl (Nat.le_of_ble_eq_true rfl) (Nat.le_of_ble_eq_true rfl) dX9_init_940 (fun H hW hS => ?_)
  refine a_putF (pc := 942) (k := 0) (ci := 9) C hW hS tyX9 (by decide) rfl ⟨Nat.le_add_right _ _, Nat.add_lt_add_left (by decide) _⟩ rfl lays_X9 tyX9_ok nmX9 39 (by decide) fm_X9_58 rfl hin rfl (x := .ref ((z + 80) + 17)) rfl rfl (Nat.le_of_ble_eq_true rfl) dX9_init_942 (fun H locs hW hS => ?_)
  refine lv_aload_n (pc := 945) hx hb dX9_init_945 rfl (lv_at hl 0 rfl) ?_
  refine lv_bipush (pc := 946) (v := 72) hx hb dX9_init_946 (by decide) ?_
  refine a_newa (pc := 948) (n := 18) (n1 := 19) (N := 72) C hW hS ai_tb (by decide) (by decide) (by decide) rfl (Nat.le_of_ble_eq_true rfl) (Nat.le_of_ble_eq_true rfl) dX9_init_948 (fun H hW hS => ?_)
  refine a_putF (pc := 950) (k := 0) (ci := 9) C hW hS tyX9 (by decide) rfl ⟨Nat.le_add_right _ _, Nat.add_lt_add_left (by decide) _⟩ rfl lays_X9 tyX9_ok nmX9 41 (by decide) fm_X9_61 rfl hin rfl (x := .ref ((z + 80) + 18)) rfl rfl (Nat.le_of_ble_eq_true rfl) dX9_init_950 (fun H locs hW hS => ?_)
  refine lv_aload_n (pc := 953) hx hb dX9_init_953 rfl (lv_at hl 0 rfl) ?_
  refine lv_bipush (pc := 954) (v := 8) hx hb dX9_init_954 (by decide) ?_
  refine a_newa (pc := 956) (n := 19) (n1 := 20) (N := 8) C hW hS ai_tb (by decide) (by decide) (by decide) rfl (Nat.le_of_ble_eq_true rfl) (Nat.le_of_ble_eq_true rfl) dX9_init_956 (fun H hW hS => ?_)
  refine a_putF (pc := 958) (k := 0) (ci := 9) C hW hS tyX9 (by decide) rfl ⟨Nat.le_add_right _ _, Nat.add_lt_add_left (by decide) _⟩ rfl lays_X9 tyX9_ok nmX9 42 (by decide) fm_X9_64 rfl hin rfl (x := .ref ((z + 80) + 19)) rfl rfl (Nat.le_of_ble_eq_true rfl) dX9_init_958 (fun H locs hW hS => ?_)
  refine lv_aload_n (pc := 961) hx hb dX9_init_961 rfl (lv_at hl 0 rfl) ?_
  refine lv_bipush (pc := 962) (v := 6) hx hb dX9_init_962 (by decide) ?_
  refine a_newa (pc := 964) (n := 20) (n1 := 21) (N := 6) C hW hS ai_tb (by decide) (by decide) (by decide) rfl (Nat.le_of_ble_eq_true rfl) (Nat.le_of_ble_eq_true rfl) dX9_init_964 (fun H hW hS => ?_)
  refine a_putF (pc := 966) (k := 0) (ci := 9) C hW hS tyX9 (by decide) rfl ⟨Nat.le_add_right _ _, Nat.add_lt_add_left (by decide) _⟩ rfl lays_X9 tyX9_ok nmX9 45 (by decide) fm_X9_67 rfl hin rfl (x := .ref ((z + 80) + 20)) rfl rfl (Nat.le_of_ble_eq_true rfl) dX9_init_966 (fun H locs hW hS => ?_)
  refine lv_aload_n (pc := 969) hx hb dX9_init_969 rfl (lv_at hl 0 rfl) ?_
  refine lv_bipush (pc := 970) (v := 6) hx hb dX9_init_970 (by decide) ?_
  refine a_newa (pc := 972) (n := 21) (n1 := 22) (N := 6) C hW hS ai_tb (by decide) (by decide) (by decide) rfl (Nat.le_of_ble_eq_true rfl) (Nat.le_of_ble_eq_true rfl) dX9_init_972 (fun H hW hS => ?_)
  refine a_putF (pc := 974) (k := 0) (ci := 9) C hW hS tyX9 (by decide) rfl ⟨Nat.le_add_right _ _, Nat.add_lt_add_left (by decide) _⟩ rfl lays_X9 tyX9_ok nmX9 47 (by decide) fm_X9_70 rfl hin rfl (x := .ref ((z + 80) + 21)) rfl rfl (Nat.le_of_ble_eq_true rfl) dX9_init_974 (fun H locs hW hS => ?_)
  refine lv_iconst (pc := 977) (v := 0) hx hb dX9_init_977 (by decide) ?_
  refine lv_istore_n (pc := 978) (lv' := [(1, .int 0), (0, .ref ((z + 80) + 0))]) hx hb dX9_init_978 rfl hl (by decide) rfl (fun ls hl => ?_)
  refine lv_iload_n (pc := 979) hx hb dX9_init_979 rfl (lv_at hl 0 rfl) ?_
  refine lv_bipush (pc := 980) (v := 37) hx hb dX9_init_980 (by decide) ?_
  refine lv_icmp_ge (pc := 982) (tgt := 1003) hx hb dX9_init_982 (by decide) (fun hc => absurd hc (by decide)) (fun _ => ?_)
  refine lv_aload_n (pc := 985) hx hb dX9_init_985 rfl (lv_at hl 1 rfl) ?_
  refine a_get (pc := 986) (k := 0) (ci := 9) C hW (by decide) rfl rfl lays_X9 7 (by decide) fm_X9_22 (x := .ref ((z + 80) + 5)) rfl dX9_init_986 ?_
  refine lv_iload_n (pc := 989) hx hb dX9_init_989 rfl (lv_at hl 0 rfl) ?_
  refine lv_aload_n (pc := 990) hx hb dX9_init_990 rfl (lv_at hl 1 rfl) ?_
  refine a_get (pc := 991) (k := 0) (ci := 9) C hW (by decide) rfl rfl lays_X9 22 (by decide) fm_X9_43 (x := .ref ((z + 80) + 12)) rfl dX9_init_991 ?_
  refine lv_iload_n (pc := 994) hx hb dX9_init_994 rfl (lv_at hl 0 rfl) ?_
  refine a_iald (pc := 995) (k := 12) (i := 0) (j := 0) (v := 103) C hW (by decide) rfl (by decide) (inb_in (by decide)) rfl dX9_init_995 ?_
  refine a_iast (pc := 996) (k := 5) (i := 0) (j := 0) C hW hS (by decide) rfl ⟨Nat.le_add_right _ _, Nat.add_lt_add_left (by decide) _⟩ (by decide) (inb_in (by decide)) dX9_init_996 (fun H locs hW hS => ?_)
  refine lv_iinc (pc := 997) (v := 1) (lv' := [(1, .int 1), (0, .ref ((z + 80) + 0))]) hx hb dX9_init_997 hl (k := 0) rfl (by decide) (by decide) rfl (fun ls hl => ?_)
  refine lv_goto (pc := 1000) (tgt := 979) hx hb dX9_init_1000 (by decide) ?_
  refine lv_iload_n (pc := 979) hx hb dX9_init_979 rfl (lv_at hl 0 rfl) ?_
  refine lv_bipush (pc := 980) (v := 37) hx hb dX9_init_980 (by decide) ?_
  refine lv_icmp_ge (pc := 982) (tgt := 1003) hx hb dX9_init_982 (by decide) (fun hc => absurd hc (by decide)) (fun _ => ?_)
  refine lv_aload_n (pc := 985) hx hb dX9_init_985 rfl (lv_at hl 1 rfl) ?_
  refine a_get (pc := 986) (k := 0) (ci := 9) C hW (by decide) rfl rfl lays_X9 7 (by decide) fm_X9_22 (x := .ref ((z + 80) + 5)) rfl dX9_init_986 ?_
  refine lv_iload_n (pc := 989) hx hb dX9_init_989 rfl (lv_at hl 0 rfl) ?_
  refine lv_aload_n (pc := 990) hx hb dX9_init_990 rfl (lv_at hl 1 rfl) ?_
  refine a_get (pc := 991) (k := 0) (ci := 9) C hW (by decide) rfl rfl lays_X9 22 (by decide) fm_X9_43 (x := .ref ((z + 80) + 12)) rfl dX9_init_991 ?_
  refine lv_iload_n (pc := 994) hx hb dX9_init_994 rfl (lv_at hl 0 rfl) ?_
  refine a_iald (pc := 995) (k := 12) (i := 1) (j := 1) (v := 114) C hW (by decide) rfl (by decide) (inb_in (by decide)) rfl dX9_init_995 ?_
  refine a_iast (pc := 996) (k := 5) (i := 1) (j := 1) C hW hS (by decide) rfl ⟨Nat.le_add_right _ _, Nat.add_lt_add_left (by decide) _⟩ (by decide) (inb_in (by decide)) dX9_init_996 (fun H locs hW hS => ?_)
  refine lv_iinc (pc := 997) (v := 2) (lv' := [(1, .int 2), (0, .ref ((z + 80) + 0))]) hx hb dX9_init_997 hl (k := 0) rfl (by decide) (by decide) rfl (fun ls hl => ?_)
  refine lv_goto (pc := 1000) (tgt := 979) hx hb dX9_init_1000 (by decide) ?_
  refine lv_iload_n (pc := 979) hx hb dX9_init_979 rfl (lv_at hl 0 rfl) ?_
  refine lv_bipush (pc := 980) (v := 37) hx hb dX9_init_980 (by decide) ?_
  refine lv_icmp_ge (pc := 982) (tgt := 1003) hx hb dX9_init_982 (by decide) (fun hc => absurd hc (by decide)) (fun _ => ?_)
  refine lv_aload_n (pc := 985) hx hb dX9_init_985 rfl (lv_at hl 1 rfl) ?_
  refine a_get (pc := 986) (k := 0) (ci := 9) C hW (by decide) rfl rfl lays_X9 7 (by decide) fm_X9_22 (x := .ref ((z + 80) + 5)) rfl dX9_init_986 ?_
  refine lv_iload_n (pc := 989) hx hb dX9_init_989 rfl (lv_at hl 0 rfl) ?_
  refine lv_aload_n (pc := 990) hx hb dX9_init_990 rfl (lv_at hl 1 rfl) ?_
  refine a_get (pc := 991) (k := 0) (ci := 9) C hW (by decide) rfl rfl lays_X9 22 (by decide) fm_X9_43 (x := .ref ((z + 80) + 12)) rfl dX9_init_991 ?_
  refine lv_iload_n (pc := 994) hx hb dX9_init_994 rfl (lv_at hl 0 rfl) ?_
  refine a_iald (pc := 995) (k := 12) (i := 2) (j := 2) (v := 111) C hW (by decide) rfl (by decide) (inb_in (by decide)) rfl dX9_init_995 ?_
  refine a_iast (pc := 996) (k := 5) (i := 2) (j := 2) C hW hS (by decide) rfl ⟨Nat.le_add_right _ _, Nat.add_lt_add_left (by decide) _⟩ (by decide) (inb_in (by decide)) dX9_init_996 (fun H locs hW hS => ?_)
  refine lv_iinc (pc := 997) (v := 3) (lv' := [(1, .int 3), (0, .ref ((z + 80) + 0))]) hx hb dX9_init_997 hl (k := 0) rfl (by decide) (by decide) rfl (fun ls hl => ?_)
  refine lv_goto (pc := 1000) (tgt := 979) hx hb dX9_init_1000 (by decide) ?_
  refine lv_iload_n (pc := 979) hx hb dX9_init_979 rfl (lv_at hl 0 rfl) ?_
  refine lv_bipush (pc := 980) (v := 37) hx hb dX9_init_980 (by decide) ?_
  refine lv_icmp_ge (pc := 982) (tgt := 1003) hx hb dX9_init_982 (by decide) (fun hc => absurd hc (by decide)) (fun _ => ?_)
  refine lv_aload_n (pc := 985) hx hb dX9_init_985 rfl (lv_at hl 1 rfl) ?_
  refine a_get (pc := 986) (k := 0) (ci := 9) C hW (by decide) rfl rfl lays_X9 7 (by decide) fm_X9_22 (x := .ref ((z + 80) + 5)) rfl dX9_init_986 ?_
  refine lv_iload_n (pc := 989) hx hb dX9_init_989 rfl (lv_at hl 0 rfl) ?_
  refine lv_aload_n (pc := 990) hx hb dX9_init_990 rfl (lv_at hl 1 rfl) ?_
  refine a_get (pc := 991) (k := 0) (ci := 9) C hW (by decide) rfl rfl lays_X9 22 (by decide) fm_X9_43 (x := .ref ((z + 80) + 12)) rfl dX9_init_991 ?_
  refine lv_iload_n (pc := 994) hx hb dX9_init_994 rfl (lv_at hl 0 rfl) ?_
  refine a_iald (pc := 995) (k := 12) (i := 3) (j := 3) (v := 119) C hW (by decide) rfl (by decide) (inb_in (by decide)) rfl dX9_init_995 ?_
  refine a_iast (pc := 996) (k := 5) (i := 3) (j := 3) C hW hS (by decide) rfl ⟨Nat.le_add_right _ _, Nat.add_lt_add_left (by decide) _⟩ (by decide) (inb_in (by decide)) dX9_init_996 (fun H locs hW hS => ?_)
  refine lv_iinc (pc := 997) (v := 4) (lv' := [(1, .int 4), (0, .ref ((z + 80) + 0))]) hx hb dX9_init_997 hl (k := 0) rfl (by decide) (by decide) rfl (fun ls hl => ?_)
  refine lv_goto (pc := 1000) (tgt := 979) hx hb dX9_init_1000 (by decide) ?_
  refine lv_iload_n (pc := 979) hx hb dX9_init_979 rfl (lv_at hl 0 rfl) ?_
  refine lv_bipush (pc := 980) (v := 37) hx hb dX9_init_980 (by decide) ?_
  refine lv_icmp_ge (pc := 982) (tgt := 1003) hx hb dX9_init_982 (by decide) (fun hc => absurd hc (by decide)) (fun _ => ?_)
  refine lv_aload_n (pc := 985) hx hb dX9_init_985 rfl (lv_at hl 1 rfl) ?_
  refine a_get (pc := 986) (k := 0) (ci := 9) C hW (by decide) rfl rfl lays_X9 7 (by decide) fm_X9_22 (x := .ref ((z + 80) + 5)) rfl dX9_init_986 ?_
  refine lv_iload_n (pc := 989) hx hb dX9_init_989 rfl (lv_at hl 0 rfl) ?_
  refine lv_aload_n (pc := 990) hx hb dX9_init_990 rfl (lv_at hl 1 rfl) ?_
  refine a_get (pc := 991) (k := 0) (ci := 9) C hW (by decide) rfl rfl lays_X9 22 (by decide) fm_X9_43 (x := .ref ((z + 80) + 12)) rfl dX9_init_991 ?_
  refine lv_iload_n (pc := 994) hx hb dX9_init_994 rfl (lv_at hl 0 rfl) ?_
  refine a_iald (pc := 995) (k := 12) (i := 4) (j := 4) (v := 115) C hW (by decide) rfl (by decide) (inb_in (by decide)) rfl dX9_init_995 ?_
  refine a_iast (pc := 996) (k := 5) (i := 4) (j := 4) C hW hS (by decide) rfl ⟨Nat.le_add_right _ _, Nat.add_lt_add_left (by decide) _⟩ (by decide) (inb_in (by decide)) dX9_init_996 (fun H locs hW hS => ?_)
  refine lv_iinc (pc := 997) (v := 5) (lv' := [(1, .int 5), (0, .ref ((z + 80) + 0))]) hx hb dX9_init_997 hl (k := 0) rfl (by decide) (by decide) rfl (fun ls hl => ?_)
  refine lv_goto (pc := 1000) (tgt := 979) hx hb dX9_init_1000 (by decide) ?_
  refine lv_iload_n (pc := 979) hx hb dX9_init_979 rfl (lv_at hl 0 rfl) ?_
  refine lv_bipush (pc := 980) (v := 37) hx hb dX9_init_980 (by decide) ?_
  refine lv_icmp_ge (pc := 982) (tgt := 1003) hx hb dX9_init_982 (by decide) (fun hc => absurd hc (by decide)) (fun _ => ?_)
  refine lv_aload_n (pc := 985) hx hb dX9_init_985 rfl (lv_at hl 1 rfl) ?_
  refine a_get (pc := 986) (k := 0) (ci := 9) C hW (by decide) rfl rfl lays_X9 7 (by decide) fm_X9_22 (x := .ref ((z + 80) + 5)) rfl dX9_init_986 ?_
  refine lv_iload_n (pc := 989) hx hb dX9_init_989 rfl (lv_at hl 0 rfl) ?_
  refine lv_aload_n (pc := 990) hx hb dX9_init_990 rfl (lv_at hl 1 rfl) ?_
  refine a_get (pc := 991) (k := 0) (ci := 9) C hW (by decide) rfl rfl lays_X9 22 (by decide) fm_X9_43 (x := .ref ((z + 80) + 12)) rfl dX9_init_991 ?_
  refine lv_iload_n (pc := 994) hx hb dX9_init_994 rfl (lv_at hl 0 rfl) ?_
  refine a_iald (pc := 995) (k := 12) (i := 5) (j := 5) (v := 32) C hW (by decide) rfl (by decide) (inb_in (by decide)) rfl dX9_init_995 ?_
  refine a_iast (pc := 996) (k := 5) (i := 5) (j := 5) C hW hS (by decide) rfl ⟨Nat.le_add_right _ _, Nat.add_lt_add_left (by decide) _⟩ (by decide) (inb_in (by decide)) dX9_init_996 (fun H locs hW hS => ?_)
  refine lv_iinc (pc := 997) (v := 6) (lv' := [(1, .int 6), (0, .ref ((z + 80) + 0))]) hx hb dX9_init_997 hl (k := 0) rfl (by decide) (by decide) rfl (fun ls hl => ?_)
  refine lv_goto (pc := 1000) (tgt := 979) hx hb dX9_init_1000 (by decide) ?_
  refine lv_iload_n (pc := 979) hx hb dX9_init_979 rfl (lv_at hl 0 rfl) ?_
  refine lv_bipush (pc := 980) (v := 37) hx hb dX9_init_980 (by decide) ?_
  refine lv_icmp_ge (pc := 982) (tgt := 1003) hx hb dX9_init_982 (by decide) (fun hc => absurd hc (by decide)) (fun _ => ?_)
  refine lv_aload_n (pc := 985) hx hb dX9_init_985 rfl (lv_at hl 1 rfl) ?_
  refine a_get (pc := 986) (k := 0) (ci := 9) C hW (by decide) rfl rfl lays_X9 7 (by decide) fm_X9_22 (x := .ref ((z + 80) + 5)) rfl dX9_init_986 ?_
  refine lv_iload_n (pc := 989) hx hb dX9_init_989 rfl (lv_at hl 0 rfl) ?_
  refine lv_aload_n (pc := 990) hx hb dX9_init_990 rfl (lv_at hl 1 rfl) ?_
  refine a_get (pc := 991) (k := 0) (ci := 9) C hW (by decide) rfl rfl lays_X9 22 (by decide) fm_X9_43 (x := .ref ((z + 80) + 12)) rfl dX9_init_991 ?_
  refine lv_iload_n (pc := 994) hx hb dX9_init_994 rfl (lv_at hl 0 rfl) ?_
  refine a_iald (pc := 995) (k := 12) (i := 6) (j := 6) (v := 52) C hW (by decide) rfl (by decide) (inb_in (by decide)) rfl dX9_init_995 ?_
  refine a_iast (pc := 996) (k := 5) (i := 6) (j := 6) C hW hS (by decide) rfl ⟨Nat.le_add_right _ _, Nat.add_lt_add_left (by decide) _⟩ (by decide) (inb_in (by decide)) dX9_init_996 (fun H locs hW hS => ?_)
  refine lv_iinc (pc := 997) (v := 7) (lv' := [(1, .int 7), (0, .ref ((z + 80) + 0))]) hx hb dX9_init_997 hl (k := 0) rfl (by decide) (by decide) rfl (fun ls hl => ?_)
  refine lv_goto (pc := 1000) (tgt := 979) hx hb dX9_init_1000 (by decide) ?_
  refine lv_iload_n (pc := 979) hx hb dX9_init_979 rfl (lv_at hl 0 rfl) ?_
  refine lv_bipush (pc := 980) (v := 37) hx hb dX9_init_980 (by decide) ?_
  refine lv_icmp_ge (pc := 982) (tgt := 1003) hx hb dX9_init_982 (by decide) (fun hc => absurd hc (by decide)) (fun _ => ?_)
  refine lv_aload_n (pc := 985) hx hb dX9_init_985 rfl (lv_at hl 1 rfl) ?_
  refine a_get (pc := 986) (k := 0) (ci := 9) C hW (by decide) rfl rfl lays_X9 7 (by decide) fm_X9_22 (x := .ref ((z + 80) + 5)) rfl dX9_init_986 ?_
  refine lv_iload_n (pc := 989) hx hb dX9_init_989 rfl (lv_at hl 0 rfl) ?_
  refine lv_aload_n (pc := 990) hx hb dX9_init_990 rfl (lv_at hl 1 rfl) ?_
  refine a_get (pc := 991) (k := 0) (ci := 9) C hW (by decide) rfl rfl lays_X9 22 (by decide) fm_X9_43 (x := .ref ((z + 80) + 12)) rfl dX9_init_991 ?_
  refine lv_iload_n (pc := 994) hx hb dX9_init_994 rfl (lv_at hl 0 rfl) ?_
  refine a_iald (pc := 995) (k := 12) (i := 7) (j := 7) (v := 32) C hW (by decide) rfl (by decide) (inb_in (by decide)) rfl dX9_init_995 ?_
  refine a_iast (pc := 996) (k := 5) (i := 7) (j := 7) C hW hS (by decide) rfl ⟨Nat.le_add_right _ _, Nat.add_lt_add_left (by decide) _⟩ (by decide) (inb_in (by decide)) dX9_init_996 (fun H locs hW hS => ?_)
  refine lv_iinc (pc := 997) (v := 8) (lv' := [(1, .int 8), (0, .ref ((z + 80) + 0))]) hx hb dX9_init_997 hl (k := 0) rfl (by decide) (by decide) rfl (fun ls hl => ?_)
  refine lv_goto (pc := 1000) (tgt := 979) hx hb dX9_init_1000 (by decide) ?_
  refine lv_iload_n (pc := 979) hx hb dX9_init_979 rfl (lv_at hl 0 rfl) ?_
  refine lv_bipush (pc := 980) (v := 37) hx hb dX9_init_980 (by decide) ?_
  refine lv_icmp_ge (pc := 982) (tgt := 1003) hx hb dX9_init_982 (by decide) (fun hc => absurd hc (by decide)) (fun _ => ?_)
  refine lv_aload_n (pc := 985) hx hb dX9_init_985 rfl (lv_at hl 1 rfl) ?_
  refine a_get (pc := 986) (k := 0) (ci := 9) C hW (by decide) rfl rfl lays_X9 7 (by decide) fm_X9_22 (x := .ref ((z + 80) + 5)) rfl dX9_init_986 ?_
  refine lv_iload_n (pc := 989) hx hb dX9_init_989 rfl (lv_at hl 0 rfl) ?_
  refine lv_aload_n (pc := 990) hx hb dX9_init_990 rfl (lv_at hl 1 rfl) ?_
  refine a_get (pc := 991) (k := 0) (ci := 9) C hW (by decide) rfl rfl lays_X9 22 (by decide) fm_X9_43 (x := .ref ((z + 80) + 12)) rfl dX9_init_991 ?_
  refine lv_iload_n (pc := 994) hx hb dX9_init_994 rfl (lv_at hl 0 rfl) ?_
  refine a_iald (pc := 995) (k := 12) (i := 8) (j := 8) (v := 43) C hW (by decide) rfl (by decide) (inb_in (by decide)) rfl dX9_init_995 ?_
  refine a_iast (pc := 996) (k := 5) (i := 8) (j := 8) C hW hS (by decide) rfl ⟨Nat.le_add_right _ _, Nat.add_lt_add_left (by decide) _⟩ (by decide) (inb_in (by decide)) dX9_init_996 (fun H locs hW hS => ?_)
  refine lv_iinc (pc := 997) (v := 9) (lv' := [(1, .int 9), (0, .ref ((z + 80) + 0))]) hx hb dX9_init_997 hl (k := 0) rfl (by decide) (by decide) rfl (fun ls hl => ?_)
  refine lv_goto (pc := 1000) (tgt := 979) hx hb dX9_init_1000 (by decide) ?_
  refine lv_iload_n (pc := 979) hx hb dX9_init_979 rfl (lv_at hl 0 rfl) ?_
  refine lv_bipush (pc := 980) (v := 37) hx hb dX9_init_980 (by decide) ?_
  refine lv_icmp_ge (pc := 982) (tgt := 1003) hx hb dX9_init_982 (by decide) (fun hc => absurd hc (by decide)) (fun _ => ?_)
  refine lv_aload_n (pc := 985) hx hb dX9_init_985 rfl (lv_at hl 1 rfl) ?_
  refine a_get (pc := 986) (k := 0) (ci := 9) C hW (by decide) rfl rfl lays_X9 7 (by decide) fm_X9_22 (x := .ref ((z + 80) + 5)) rfl dX9_init_986 ?_
  refine lv_iload_n (pc := 989) hx hb dX9_init_989 rfl (lv_at hl 0 rfl) ?_
  refine lv_aload_n (pc := 990) hx hb dX9_init_990 rfl (lv_at hl 1 rfl) ?_
  refine a_get (pc := 991) (k := 0) (ci := 9) C hW (by decide) rfl rfl lays_X9 22 (by decide) fm_X9_43 (x := .ref ((z + 80) + 12)) rfl dX9_init_991 ?_
  refine lv_iload_n (pc := 994) hx hb dX9_init_994 rfl (lv_at hl 0 rfl) ?_
  refine a_iald (pc := 995) (k := 12) (i := 9) (j := 9) (v := 32) C hW (by decide) rfl (by decide) (inb_in (by decide)) rfl dX9_init_995 ?_
  refine a_iast (pc := 996) (k := 5) (i := 9) (j := 9) C hW hS (by decide) rfl ⟨Nat.le_add_right _ _, Nat.add_lt_add_left (by decide) _⟩ (by decide) (inb_in (by decide)) dX9_init_996 (fun H locs hW hS => ?_)
  refine lv_iinc (pc := 997) (v := 10) (lv' := [(1, .int 10), (0, .ref ((z + 80) + 0))]) hx hb dX9_init_997 hl (k := 0) rfl (by decide) (by decide) rfl (fun ls hl => ?_)
  refine lv_goto (pc := 1000) (tgt := 979) hx hb dX9_init_1000 (by decide) ?_
  refine lv_iload_n (pc := 979) hx hb dX9_init_979 rfl (lv_at hl 0 rfl) ?_
  refine lv_bipush (pc := 980) (v := 37) hx hb dX9_init_980 (by decide) ?_
  refine lv_icmp_ge (pc := 982) (tgt := 1003) hx hb dX9_init_982 (by decide) (fun hc => absurd hc (by decide)) (fun _ => ?_)
  refine lv_aload_n (pc := 985) hx hb dX9_init_985 rfl (lv_at hl 1 rfl) ?_
  refine a_get (pc := 986) (k := 0) (ci := 9) C hW (by decide) rfl rfl lays_X9 7 (by decide) fm_X9_22 (x := .ref ((z + 80) + 5)) rfl dX9_init_986 ?_
  refine lv_iload_n (pc := 989) hx hb dX9_init_989 rfl (lv_at hl 0 rfl) ?_
  refine lv_aload_n (pc := 990) hx hb dX9_init_990 rfl (lv_at hl 1 rfl) ?_
  refine a_get (pc := 991) (k := 0) (ci := 9) C hW (by decide) rfl rfl lays_X9 22 (by decide) fm_X9_43 (x := .ref ((z + 80) + 12)) rfl dX9_init_991 ?_
  refine lv_iload_n (pc := 994) hx hb dX9_init_994 rfl (lv_at hl 0 rfl) ?_
  refine a_iald (pc := 995) (k := 12) (i := 10) (j := 10) (v := 111) C hW (by decide) rfl (by decide) (inb_in (by decide)) rfl dX9_init_995 ?_
  refine a_iast (pc := 996) (k := 5) (i := 10) (j := 10) C hW hS (by decide) rfl ⟨Nat.le_add_right _ _, Nat.add_lt_add_left (by decide) _⟩ (by decide) (inb_in (by decide)) dX9_init_996 (fun H locs hW hS => ?_)
  refine lv_iinc (pc := 997) (v := 11) (lv' := [(1, .int 11), (0, .ref ((z + 80) + 0))]) hx hb dX9_init_997 hl (k := 0) rfl (by decide) (by decide) rfl (fun ls hl => ?_)
  refine lv_goto (pc := 1000) (tgt := 979) hx hb dX9_init_1000 (by decide) ?_
  refine lv_iload_n (pc := 979) hx hb dX9_init_979 rfl (lv_at hl 0 rfl) ?_
  refine lv_bipush (pc := 980) (v := 37) hx hb dX9_init_980 (by decide) ?_
  refine lv_icmp_ge (pc := 982) (tgt := 1003) hx hb dX9_init_982 (by decide) (fun hc => absurd hc (by decide)) (fun _ => ?_)
  refine lv_aload_n (pc := 985) hx hb dX9_init_985 rfl (lv_at hl 1 rfl) ?_
  refine a_get (pc := 986) (k := 0) (ci := 9) C hW (by decide) rfl rfl lays_X9 7 (by decide) fm_X9_22 (x := .ref ((z + 80) + 5)) rfl dX9_init_986 ?_
  refine lv_iload_n (pc := 989) hx hb dX9_init_989 rfl (lv_at hl 0 rfl) ?_
  refine lv_aload_n (pc := 990) hx hb dX9_init_990 rfl (lv_at hl 1 rfl) ?_
  refine a_get (pc := 991) (k := 0) (ci := 9) C hW (by decide) rfl rfl lays_X9 22 (by decide) fm_X9_43 (x := .ref ((z + 80) + 12)) rfl dX9_init_991 ?_
  refine lv_iload_n (pc := 994) hx hb dX9_init_994 rfl (lv_at hl 0 rfl) ?_
  refine a_iald (pc := 995) (k := 12) (i := 11) (j := 11) (v := 105) C hW (by decide) rfl (by decide) (inb_in (by decide)) rfl dX9_init_995 ?_
  refine a_iast (pc := 996) (k := 5) (i := 11) (j := 11) C hW hS (by decide) rfl ⟨Nat.le_add_right _ _, Nat.add_lt_add_left (by decide) _⟩ (by decide) (inb_in (by decide)) dX9_init_996 (fun H locs hW hS => ?_)
  refine lv_iinc (pc := 997) (v := 12) (lv' := [(1, .int 12), (0, .ref ((z + 80) + 0))]) hx hb dX9_init_997 hl (k := 0) rfl (by decide) (by decide) rfl (fun ls hl => ?_)
  refine lv_goto (pc := 1000) (tgt := 979) hx hb dX9_init_1000 (by decide) ?_
  refine lv_iload_n (pc := 979) hx hb dX9_init_979 rfl (lv_at hl 0 rfl) ?_
  refine lv_bipush (pc := 980) (v := 37) hx hb dX9_init_980 (by decide) ?_
  refine lv_icmp_ge (pc := 982) (tgt := 1003) hx hb dX9_init_982 (by decide) (fun hc => absurd hc (by decide)) (fun _ => ?_)
  refine lv_aload_n (pc := 985) hx hb dX9_init_985 rfl (lv_at hl 1 rfl) ?_
  refine a_get (pc := 986) (k := 0) (ci := 9) C hW (by decide) rfl rfl lays_X9 7 (by decide) fm_X9_22 (x := .ref ((z + 80) + 5)) rfl dX9_init_986 ?_
  refine lv_iload_n (pc := 989) hx hb dX9_init_989 rfl (lv_at hl 0 rfl) ?_
  refine lv_aload_n (pc := 990) hx hb dX9_init_990 rfl (lv_at hl 1 rfl) ?_
  refine a_get (pc := 991) (k := 0) (ci := 9) C hW (by decide) rfl rfl lays_X9 22 (by decide) fm_X9_43 (x := .ref ((z + 80) + 12)) rfl dX9_init_991 ?_
  refine lv_iload_n (pc := 994) hx hb dX9_init_994 rfl (lv_at hl 0 rfl) ?_
  refine a_iald (pc := 995) (k := 12) (i := 12) (j := 12) (v := 108) C hW (by decide) rfl (by decide) (inb_in (by decide)) rfl dX9_init_995 ?_
  refine a_iast (pc := 996) (k := 5) (i := 12) (j := 12) C hW hS (by decide) rfl ⟨Nat.le_add_right _ _, Nat.add_lt_add_left (by decide) _⟩ (by decide) (inb_in (by decide)) dX9_init_996 (fun H locs hW hS => ?_)
  refine lv_iinc (pc := 997) (v := 13) (lv' := [(1, .int 13), (0, .ref ((z + 80) + 0))]) hx hb dX9_init_997 hl (k := 0) rfl (by decide) (by decide) rfl (fun ls hl => ?_)
  refine lv_goto (pc := 1000) (tgt := 979) hx hb dX9_init_1000 (by decide) ?_
  refine lv_iload_n (pc := 979) hx hb dX9_init_979 rfl (lv_at hl 0 rfl) ?_
  refine lv_bipush (pc := 980) (v := 37) hx hb dX9_init_980 (by decide) ?_
  refine lv_icmp_ge (pc := 982) (tgt := 1003) hx hb dX9_init_982 (by decide) (fun hc => absurd hc (by decide)) (fun _ => ?_)
  refine lv_aload_n (pc := 985) hx hb dX9_init_985 rfl (lv_at hl 1 rfl) ?_
  refine a_get (pc := 986) (k := 0) (ci := 9) C hW (by decide) rfl rfl lays_X9 7 (by decide) fm_X9_22 (x := .ref ((z + 80) + 5)) rfl dX9_init_986 ?_
  refine lv_iload_n (pc := 989) hx hb dX9_init_989 rfl (lv_at hl 0 rfl) ?_
  refine lv_aload_n (pc := 990) hx hb dX9_init_990 rfl (lv_at hl 1 rfl) ?_
  refine a_get (pc := 991) (k := 0) (ci := 9) C hW (by decide) rfl rfl lays_X9 22 (by decide) fm_X9_43 (x := .ref ((z + 80) + 12)) rfl dX9_init_991 ?_
  refine lv_iload_n (pc := 994) hx hb dX9_init_994 rfl (lv_at hl 0 rfl) ?_
  refine a_iald (pc := 995) (k := 12) (i := 13) (j := 13) (v := 32) C hW (by decide) rfl (by decide) (inb_in (by decide)) rfl dX9_init_995 ?_
  refine a_iast (pc := 996) (k := 5) (i := 13) (j := 13) C hW hS (by decide) rfl ⟨Nat.le_add_right _ _, Nat.add_lt_add_left (by decide) _⟩ (by decide) (inb_in (by decide)) dX9_init_996 (fun H locs hW hS => ?_)
  refine lv_iinc (pc := 997) (v := 14) (lv' := [(1, .int 14), (0, .ref ((z + 80) + 0))]) hx hb dX9_init_997 hl (k := 0) rfl (by decide) (by decide) rfl (fun ls hl => ?_)
  refine lv_goto (pc := 1000) (tgt := 979) hx hb dX9_init_1000 (by decide) ?_
  refine lv_iload_n (pc := 979) hx hb dX9_init_979 rfl (lv_at hl 0 rfl) ?_
  refine lv_bipush (pc := 980) (v := 37) hx hb dX9_init_980 (by decide) ?_
  refine lv_icmp_ge (pc := 982) (tgt := 1003) hx hb dX9_init_982 (by decide) (fun hc => absurd hc (by decide)) (fun _ => ?_)
  refine lv_aload_n (pc := 985) hx hb dX9_init_985 rfl (lv_at hl 1 rfl) ?_
  refine a_get (pc := 986) (k := 0) (ci := 9) C hW (by decide) rfl rfl lays_X9 7 (by decide) fm_X9_22 (x := .ref ((z + 80) + 5)) rfl dX9_init_986 ?_
  refine lv_iload_n (pc := 989) hx hb dX9_init_989 rfl (lv_at hl 0 rfl) ?_
  refine lv_aload_n (pc := 990) hx hb dX9_init_990 rfl (lv_at hl 1 rfl) ?_
  refine a_get (pc := 991) (k := 0) (ci := 9) C hW (by decide) rfl rfl lays_X9 22 (by decide) fm_X9_43 (x := .ref ((z + 80) + 12)) rfl dX9_init_991 ?_
  refine lv_iload_n (pc := 994) hx hb dX9_init_994 rfl (lv_at hl 0 rfl) ?_
  refine a_iald (pc := 995) (k := 12) (i := 14) (j := 14) (v := 59) C hW (by decide) rfl (by decide) (inb_in (by decide)) rfl dX9_init_995 ?_
  refine a_iast (pc := 996) (k := 5) (i := 14) (j := 14) C hW hS (by decide) rfl ⟨Nat.le_add_right _ _, Nat.add_lt_add_left (by decide) _⟩ (by decide) (inb_in (by decide)) dX9_init_996 (fun H locs hW hS => ?_)
  refine lv_iinc (pc := 997) (v := 15) (lv' := [(1, .int 15), (0, .ref ((z + 80) + 0))]) hx hb dX9_init_997 hl (k := 0) rfl (by decide) (by decide) rfl (fun ls hl => ?_)
  refine lv_goto (pc := 1000) (tgt := 979) hx hb dX9_init_1000 (by decide) ?_
  refine lv_iload_n (pc := 979) hx hb dX9_init_979 rfl (lv_at hl 0 rfl) ?_
  refine lv_bipush (pc := 980) (v := 37) hx hb dX9_init_980 (by decide) ?_
  refine lv_icmp_ge (pc := 982) (tgt := 1003) hx hb dX9_init_982 (by decide) (fun hc => absurd hc (by decide)) (fun _ => ?_)
  refine lv_aload_n (pc := 985) hx hb dX9_init_985 rfl (lv_at hl 1 rfl) ?_
  refine a_get (pc := 986) (k := 0) (ci := 9) C hW (by decide) rfl rfl lays_X9 7 (by decide) fm_X9_22 (x := .ref ((z + 80) + 5)) rfl dX9_init_986 ?_
  refine lv_iload_n (pc := 989) hx hb dX9_init_989 rfl (lv_at hl 0 rfl) ?_
  refine lv_aload_n (pc := 990) hx hb dX9_init_990 rfl (lv_at hl 1 rfl) ?_
  refine a_get (pc := 991) (k := 0) (ci := 9) C hW (by decide) rfl rfl lays_X9 22 (by decide) fm_X9_43 (x := .ref ((z + 80) + 12)) rfl dX9_init_991 ?_
  refine lv_iload_n (pc := 994) hx hb dX9_init_994 rfl (lv_at hl 0 rfl) ?_
  refine a_iald (pc := 995) (k := 12) (i := 15) (j := 15) (v := 32) C hW (by decide) rfl (by decide) (inb_in (by decide)) rfl dX9_init_995 ?_
  refine a_iast (pc := 996) (k := 5) (i := 15) (j := 15) C hW hS (by decide) rfl ⟨Nat.le_add_right _ _, Nat.add_lt_add_left (by decide) _⟩ (by decide) (inb_in (by decide)) dX9_init_996 (fun H locs hW hS => ?_)
  refine lv_iinc (pc := 997) (v := 16) (lv' := [(1, .int 16), (0, .ref ((z + 80) + 0))]) hx hb dX9_init_997 hl (k := 0) rfl (by decide) (by decide) rfl (fun ls hl => ?_)
  refine lv_goto (pc := 1000) (tgt := 979) hx hb dX9_init_1000 (by decide) ?_
  refine lv_iload_n (pc := 979) hx hb dX9_init_979 rfl (lv_at hl 0 rfl) ?_
  refine lv_bipush (pc := 980) (v := 37) hx hb dX9_init_980 (by decide) ?_
  refine lv_icmp_ge (pc := 982) (tgt := 1003) hx hb dX9_init_982 (by decide) (fun hc => absurd hc (by decide)) (fun _ => ?_)
  refine lv_aload_n (pc := 985) hx hb dX9_init_985 rfl (lv_at hl 1 rfl) ?_
  refine a_get (pc := 986) (k := 0) (ci := 9) C hW (by decide) rfl rfl lays_X9 7 (by decide) fm_X9_22 (x := .ref ((z + 80) + 5)) rfl dX9_init_986 ?_
  refine lv_iload_n (pc := 989) hx hb dX9_init_989 rfl (lv_at hl 0 rfl) ?_
  refine lv_aload_n (pc := 990) hx hb dX9_init_990 rfl (lv_at hl 1 rfl) ?_
  refine a_get (pc := 991) (k := 0) (ci := 9) C hW (by decide) rfl rfl lays_X9 22 (by decide) fm_X9_43 (x := .ref ((z + 80) + 12)) rfl dX9_init_991 ?_
  refine lv_iload_n (pc := 994) hx hb dX9_init_994 rfl (lv_at hl 0 rfl) ?_
  refine a_iald (pc := 995) (k := 12) (i := 16) (j := 16) (v := 116) C hW (by decide) rfl (by decide) (inb_in (by decide)) rfl dX9_init_995 ?_
  refine a_iast (pc := 996) (k := 5) (i := 16) (j := 16) C hW hS (by decide) rfl ⟨Nat.le_add_right _ _, Nat.add_lt_add_left (by decide) _⟩ (by decide) (inb_in (by decide)) dX9_init_996 (fun H locs hW hS => ?_)
  refine lv_iinc (pc := 997) (v := 17) (lv' := [(1, .int 17), (0, .ref ((z + 80) + 0))]) hx hb dX9_init_997 hl (k := 0) rfl (by decide) (by decide) rfl (fun ls hl => ?_)
  refine lv_goto (pc := 1000) (tgt := 979) hx hb dX9_init_1000 (by decide) ?_
  refine lv_iload_n (pc := 979) hx hb dX9_init_979 rfl (lv_at hl 0 rfl) ?_
  refine lv_bipush (pc := 980) (v := 37) hx hb dX9_init_980 (by decide) ?_
  refine lv_icmp_ge (pc := 982) (tgt := 1003) hx hb dX9_init_982 (by decide) (fun hc => absurd hc (by decide)) (fun _ => ?_)
  refine lv_aload_n (pc := 985) hx hb dX9_init_985 rfl (lv_at hl 1 rfl) ?_
  refine a_get (pc := 986) (k := 0) (ci := 9) C hW (by decide) rfl rfl lays_X9 7 (by decide) fm_X9_22 (x := .ref ((z + 80) + 5)) rfl dX9_init_986 ?_
  refine lv_iload_n (pc := 989) hx hb dX9_init_989 rfl (lv_at hl 0 rfl) ?_
  refine lv_aload_n (pc := 990) hx hb dX9_init_990 rfl (lv_at hl 1 rfl) ?_
  refine a_get (pc := 991) (k := 0) (ci := 9) C hW (by decide) rfl rfl lays_X9 22 (by decide) fm_X9_43 (x := .ref ((z + 80) + 12)) rfl dX9_init_991 ?_
  refine lv_iload_n (pc := 994) hx hb dX9_init_994 rfl (lv_at hl 0 rfl) ?_
  refine a_iald (pc := 995) (k := 12) (i := 17) (j := 17) (v := 114) C hW (by decide) rfl (by decide) (inb_in (by decide)) rfl dX9_init_995 ?_
  refine a_iast (pc := 996) (k := 5) (i := 17) (j := 17) C hW hS (by decide) rfl ⟨Nat.le_add_right _ _, Nat.add_lt_add_left (by decide) _⟩ (by decide) (inb_in (by decide)) dX9_init_996 (fun H locs hW hS => ?_)
  refine lv_iinc (pc := 997) (v := 18) (lv' := [(1, .int 18), (0, .ref ((z + 80) + 0))]) hx hb dX9_init_997 hl (k := 0) rfl (by decide) (by decide) rfl (fun ls hl => ?_)
  refine lv_goto (pc := 1000) (tgt := 979) hx hb dX9_init_1000 (by decide) ?_
  refine lv_iload_n (pc := 979) hx hb dX9_init_979 rfl (lv_at hl 0 rfl) ?_
  refine lv_bipush (pc := 980) (v := 37) hx hb dX9_init_980 (by decide) ?_
  refine lv_icmp_ge (pc := 982) (tgt := 1003) hx hb dX9_init_982 (by decide) (fun hc => absurd hc (by decide)) (fun _ => ?_)
  refine lv_aload_n (pc := 985) hx hb dX9_init_985 rfl (lv_at hl 1 rfl) ?_
  refine a_get (pc := 986) (k := 0) (ci := 9) C hW (by decide) rfl rfl lays_X9 7 (by decide) fm_X9_22 (x := .ref ((z + 80) + 5)) rfl dX9_init_986 ?_
  refine lv_iload_n (pc := 989) hx hb dX9_init_989 rfl (lv_at hl 0 rfl) ?_
  refine lv_aload_n (pc := 990) hx hb dX9_init_990 rfl (lv_at hl 1 rfl) ?_
  refine a_get (pc := 991) (k := 0) (ci := 9) C hW (by decide) rfl rfl lays_X9 22 (by decide) fm_X9_43 (x := .ref ((z + 80) + 12)) rfl dX9_init_991 ?_
  refine lv_iload_n (pc := 994) hx hb dX9_init_994 rfl (lv_at hl 0 rfl) ?_
  refine a_iald (pc := 995) (k := 12) (i := 18) (j := 18) (v := 105) C hW (by decide) rfl (by decide) (inb_in (by decide)) rfl dX9_init_995 ?_
  refine a_iast (pc := 996) (k := 5) (i := 18) (j := 18) C hW hS (by decide) rfl ⟨Nat.le_add_right _ _, Nat.add_lt_add_left (by decide) _⟩ (by decide) (inb_in (by decide)) dX9_init_996 (fun H locs hW hS => ?_)
  refine lv_iinc (pc := 997) (v := 19) (lv' := [(1, .int 19), (0, .ref ((z + 80) + 0))]) hx hb dX9_init_997 hl (k := 0) rfl (by decide) (by decide) rfl (fun ls hl => ?_)
  refine lv_goto (pc := 1000) (tgt := 979) hx hb dX9_init_1000 (by decide) ?_
  refine lv_iload_n (pc := 979) hx hb dX9_init_979 rfl (lv_at hl 0 rfl) ?_
  refine lv_bipush (pc := 980) (v := 37) hx hb dX9_init_980 (by decide) ?_
  refine lv_icmp_ge (pc := 982) (tgt := 1003) hx hb dX9_init_982 (by decide) (fun hc => absurd hc (by decide)) (fun _ => ?_)
  refine lv_aload_n (pc := 985) hx hb dX9_init_985 rfl (lv_at hl 1 rfl) ?_
  refine a_get (pc := 986) (k := 0) (ci := 9) C hW (by decide) rfl rfl lays_X9 7 (by decide) fm_X9_22 (x := .ref ((z + 80) + 5)) rfl dX9_init_986 ?_
  refine lv_iload_n (pc := 989) hx hb dX9_init_989 rfl (lv_at hl 0 rfl) ?_
  refine lv_aload_n (pc := 990) hx hb dX9_init_990 rfl (lv_at hl 1 rfl) ?_
  refine a_get (pc := 991) (k := 0) (ci := 9) C hW (by decide) rfl rfl lays_X9 22 (by decide) fm_X9_43 (x := .ref ((z + 80) + 12)) rfl dX9_init_991 ?_
  refine lv_iload_n (pc := 994) hx hb dX9_init_994 rfl (lv_at hl 0 rfl) ?_
  refine a_iald (pc := 995) (k := 12) (i := 19) (j := 19) (v := 109) C hW (by decide) rfl (by decide) (inb_in (by decide)) rfl dX9_init_995 ?_
  refine a_iast (pc := 996) (k := 5) (i := 19) (j := 19) C hW hS (by decide) rfl ⟨Nat.le_add_right _ _, Nat.add_lt_add_left (by decide) _⟩ (by decide) (inb_in (by decide)) dX9_init_996 (fun H locs hW hS => ?_)
  refine lv_iinc (pc := 997) (v := 20) (lv' := [(1, .int 20), (0, .ref ((z + 80) + 0))]) hx hb dX9_init_997 hl (k := 0) rfl (by decide) (by decide) rfl (fun ls hl => ?_)
  refine lv_goto (pc := 1000) (tgt := 979) hx hb dX9_init_1000 (by decide) ?_
  refine lv_iload_n (pc := 979) hx hb dX9_init_979 rfl (lv_at hl 0 rfl) ?_
  refine lv_bipush (pc := 980) (v := 37) hx hb dX9_init_980 (by decide) ?_
  refine lv_icmp_ge (pc := 982) (tgt := 1003) hx hb dX9_init_982 (by decide) (fun hc => absurd hc (by decide)) (fun _ => ?_)
  refine lv_aload_n (pc := 985) hx hb dX9_init_985 rfl (lv_at hl 1 rfl) ?_
  refine a_get (pc := 986) (k := 0) (ci := 9) C hW (by decide) rfl rfl lays_X9 7 (by decide) fm_X9_22 (x := .ref ((z + 80) + 5)) rfl dX9_init_986 ?_
  refine lv_iload_n (pc := 989) hx hb dX9_init_989 rfl (lv_at hl 0 rfl) ?_
  refine lv_aload_n (pc := 990) hx hb dX9_init_990 rfl (lv_at hl 1 rfl) ?_
  refine a_get (pc := 991) (k := 0) (ci := 9) C hW (by decide) rfl rfl lays_X9 22 (by decide) fm_X9_43 (x := .ref ((z + 80) + 12)) rfl dX9_init_991 ?_
  refine lv_iload_n (pc := 994) hx hb dX9_init_994 rfl (lv_at hl 0 rfl) ?_
  refine a_iald (pc := 995) (k := 12) (i := 20) (j := 20) (v := 115) C hW (by decide) rfl (by decide) (inb_in (by decide)) rfl dX9_init_995 ?_
  refine a_iast (pc := 996) (k := 5) (i := 20) (j := 20) C hW hS (by decide) rfl ⟨Nat.le_add_right _ _, Nat.add_lt_add_left (by decide) _⟩ (by decide) (inb_in (by decide)) dX9_init_996 (fun H locs hW hS => ?_)
  replace hW : Wg D (z + 80) 22 (rx4 z ac) H := ⟨hW.1, fun q hq => by
    have h := hW.2 q hq
    revert h
    have hc : q = 0 ∨ q = 1 ∨ q = 2 ∨ q = 3 ∨ q = 4 ∨ q = 5 ∨ q = 6 ∨ q = 7 ∨ q = 8 ∨ q = 9 ∨ q = 10 ∨ q = 11 ∨ q = 12 ∨ q = 13 ∨ q = 14 ∨ q = 15 ∨ q = 16 ∨ q = 17 ∨ q = 18 ∨ q = 19 ∨ q = 20 ∨ q = 21 := by omega
    rcases hc with rfl | rfl | rfl | rfl | rfl | rfl | rfl | rfl | rfl | rfl | rfl | rfl | rfl | rfl | rfl | rfl | rfl | rfl | rfl | rfl | rfl | rfl
    · exact id
    · refine at_ints (cA := ac 0) (N := 6) ?_ _ _
      decide +kernel
    · refine at_ints (cA := ac 0) (N := 6) ?_ _ _
      decide +kernel
    · refine at_ints (cA := ac 0) (N := 24) ?_ _ _
      decide +kernel
    · refine at_ints (cA := ac 0) (N := 48) ?_ _ _
      decide +kernel
    · refine at_ints (cA := ac 0) (N := 160) ?_ _ _
      decide +kernel
    · refine at_ints (cA := ac 0) (N := 1200) ?_ _ _
      decide +kernel
    · refine at_ints (cA := ac 0) (N := 24) ?_ _ _
      decide +kernel
    · refine at_ints (cA := ac 0) (N := 72) ?_ _ _
      decide +kernel
    · refine at_ints (cA := ac 0) (N := 4) ?_ _ _
      decide +kernel
    · refine at_ints (cA := ac 0) (N := 4) ?_ _ _
      decide +kernel
    · refine at_ints (cA := ac 0) (N := 160) ?_ _ _
      decide +kernel
    · refine at_ints (cA := ac 0) (N := 37) ?_ _ _
      decide +kernel
    · refine at_ints (cA := ac 0) (N := 96) ?_ _ _
      decide +kernel
    · refine at_ints (cA := ac 0) (N := 200) ?_ _ _
      decide +kernel
    · refine at_ints (cA := ac 0) (N := 200) ?_ _ _
      decide +kernel
    · refine at_ints (cA := ac 0) (N := 6) ?_ _ _
      decide +kernel
    · refine at_ints (cA := ac 0) (N := 72) ?_ _ _
      decide +kernel
    · refine at_ints (cA := ac 0) (N := 72) ?_ _ _
      decide +kernel
    · refine at_ints (cA := ac 0) (N := 8) ?_ _ _
      decide +kernel
    · refine at_ints (cA := ac 0) (N := 6) ?_ _ _
      decide +kernel
    · refine at_ints (cA := ac 0) (N := 6) ?_ _ _
      decide +kernel
    ⟩
  refine lv_iinc (pc := 997) (v := 21) (lv' := [(1, .int 21), (0, .ref ((z + 80) + 0))]) hx hb dX9_init_997 hl (k := 0) rfl (by decide) (by decide) rfl (fun ls hl => ?_)
  refine lv_goto (pc := 1000) (tgt := 979) hx hb dX9_init_1000 (by decide) ?_
  refine lv_iload_n (pc := 979) hx hb dX9_init_979 rfl (lv_at hl 0 rfl) ?_
  refine lv_bipush (pc := 980) (v := 37) hx hb dX9_init_980 (by decide) ?_
  refine lv_icmp_ge (pc := 982) (tgt := 1003) hx hb dX9_init_982 (by decide) (fun hc => absurd hc (by decide)) (fun _ => ?_)
  refine lv_aload_n (pc := 985) hx hb dX9_init_985 rfl (lv_at hl 1 rfl) ?_
  refine a_get (pc := 986) (k := 0) (ci := 9) C hW (by decide) rfl rfl lays_X9 7 (by decide) fm_X9_22 (x := .ref ((z + 80) + 5)) rfl dX9_init_986 ?_
  refine lv_iload_n (pc := 989) hx hb dX9_init_989 rfl (lv_at hl 0 rfl) ?_
  refine lv_aload_n (pc := 990) hx hb dX9_init_990 rfl (lv_at hl 1 rfl) ?_
  refine a_get (pc := 991) (k := 0) (ci := 9) C hW (by decide) rfl rfl lays_X9 22 (by decide) fm_X9_43 (x := .ref ((z + 80) + 12)) rfl dX9_init_991 ?_
  refine lv_iload_n (pc := 994) hx hb dX9_init_994 rfl (lv_at hl 0 rfl) ?_
  refine a_iald (pc := 995) (k := 12) (i := 21) (j := 21) (v := 32) C hW (by decide) rfl (by decide) (inb_in (by decide)) rfl dX9_init_995 ?_
  refine a_iast (pc := 996) (k := 5) (i := 21) (j := 21) C hW hS (by decide) rfl ⟨Nat.le_add_right _ _, Nat.add_lt_add_left (by decide) _⟩ (by decide) (inb_in (by decide)) dX9_init_996 (fun H locs hW hS => ?_)
  refine lv_iinc (pc := 997) (v := 22) (lv' := [(1, .int 22), (0, .ref ((z + 80) + 0))]) hx hb dX9_init_997 hl (k := 0) rfl (by decide) (by decide) rfl (fun ls hl => ?_)
  refine lv_goto (pc := 1000) (tgt := 979) hx hb dX9_init_1000 (by decide) ?_
  refine lv_iload_n (pc := 979) hx hb dX9_init_979 rfl (lv_at hl 0 rfl) ?_
  refine lv_bipush (pc := 980) (v := 37) hx hb dX9_init_980 (by decide) ?_
  refine lv_icmp_ge (pc := 982) (tgt := 1003) hx hb dX9_init_982 (by decide) (fun hc => absurd hc (by decide)) (fun _ => ?_)
  refine lv_aload_n (pc := 985) hx hb dX9_init_985 rfl (lv_at hl 1 rfl) ?_
  refine a_get (pc := 986) (k := 0) (ci := 9) C hW (by decide) rfl rfl lays_X9 7 (by decide) fm_X9_22 (x := .ref ((z + 80) + 5)) rfl dX9_init_986 ?_
  refine lv_iload_n (pc := 989) hx hb dX9_init_989 rfl (lv_at hl 0 rfl) ?_
  refine lv_aload_n (pc := 990) hx hb dX9_init_990 rfl (lv_at hl 1 rfl) ?_
  refine a_get (pc := 991) (k := 0) (ci := 9) C hW (by decide) rfl rfl lays_X9 22 (by decide) fm_X9_43 (x := .ref ((z + 80) + 12)) rfl dX9_init_991 ?_
  refine lv_iload_n (pc := 994) hx hb dX9_init_994 rfl (lv_at hl 0 rfl) ?_
  refine a_iald (pc := 995) (k := 12) (i := 22) (j := 22) (v := 50) C hW (by decide) rfl (by decide) (inb_in (by decide)) rfl dX9_init_995 ?_
  refine a_iast (pc := 996) (k := 5) (i := 22) (j := 22) C hW hS (by decide) rfl ⟨Nat.le_add_right _ _, Nat.add_lt_add_left (by decide) _⟩ (by decide) (inb_in (by decide)) dX9_init_996 (fun H locs hW hS => ?_)
  refine lv_iinc (pc := 997) (v := 23) (lv' := [(1, .int 23), (0, .ref ((z + 80) + 0))]) hx hb dX9_init_997 hl (k := 0) rfl (by decide) (by decide) rfl (fun ls hl => ?_)
  refine lv_goto (pc := 1000) (tgt := 979) hx hb dX9_init_1000 (by decide) ?_
  refine lv_iload_n (pc := 979) hx hb dX9_init_979 rfl (lv_at hl 0 rfl) ?_
  refine lv_bipush (pc := 980) (v := 37) hx hb dX9_init_980 (by decide) ?_
  refine lv_icmp_ge (pc := 982) (tgt := 1003) hx hb dX9_init_982 (by decide) (fun hc => absurd hc (by decide)) (fun _ => ?_)
  refine lv_aload_n (pc := 985) hx hb dX9_init_985 rfl (lv_at hl 1 rfl) ?_
  refine a_get (pc := 986) (k := 0) (ci := 9) C hW (by decide) rfl rfl lays_X9 7 (by decide) fm_X9_22 (x := .ref ((z + 80) + 5)) rfl dX9_init_986 ?_
  refine lv_iload_n (pc := 989) hx hb dX9_init_989 rfl (lv_at hl 0 rfl) ?_
  refine lv_aload_n (pc := 990) hx hb dX9_init_990 rfl (lv_at hl 1 rfl) ?_
  refine a_get (pc := 991) (k := 0) (ci := 9) C hW (by decide) rfl rfl lays_X9 22 (by decide) fm_X9_43 (x := .ref ((z + 80) + 12)) rfl dX9_init_991 ?_
  refine lv_iload_n (pc := 994) hx hb dX9_init_994 rfl (lv_at hl 0 rfl) ?_
  refine a_iald (pc := 995) (k := 12) (i := 23) (j := 23) (v := 32) C hW (by decide) rfl (by decide) (inb_in (by decide)) rfl dX9_init_995 ?_
  refine a_iast (pc := 996) (k := 5) (i := 23) (j := 23) C hW hS (by decide) rfl ⟨Nat.le_add_right _ _, Nat.add_lt_add_left (by decide) _⟩ (by decide) (inb_in (by decide)) dX9_init_996 (fun H locs hW hS => ?_)
  refine lv_iinc (pc := 997) (v := 24) (lv' := [(1, .int 24), (0, .ref ((z + 80) + 0))]) hx hb dX9_init_997 hl (k := 0) rfl (by decide) (by decide) rfl (fun ls hl => ?_)
  refine lv_goto (pc := 1000) (tgt := 979) hx hb dX9_init_1000 (by decide) ?_
  refine lv_iload_n (pc := 979) hx hb dX9_init_979 rfl (lv_at hl 0 rfl) ?_
  refine lv_bipush (pc := 980) (v := 37) hx hb dX9_init_980 (by decide) ?_
  refine lv_icmp_ge (pc := 982) (tgt := 1003) hx hb dX9_init_982 (by decide) (fun hc => absurd hc (by decide)) (fun _ => ?_)
  refine lv_aload_n (pc := 985) hx hb dX9_init_985 rfl (lv_at hl 1 rfl) ?_
  refine a_get (pc := 986) (k := 0) (ci := 9) C hW (by decide) rfl rfl lays_X9 7 (by decide) fm_X9_22 (x := .ref ((z + 80) + 5)) rfl dX9_init_986 ?_
  refine lv_iload_n (pc := 989) hx hb dX9_init_989 rfl (lv_at hl 0 rfl) ?_
  refine lv_aload_n (pc := 990) hx hb dX9_init_990 rfl (lv_at hl 1 rfl) ?_
  refine a_get (pc := 991) (k := 0) (ci := 9) C hW (by decide) rfl rfl lays_X9 22 (by decide) fm_X9_43 (x := .ref ((z + 80) + 12)) rfl dX9_init_991 ?_
  refine lv_iload_n (pc := 994) hx hb dX9_init_994 rfl (lv_at hl 0 rfl) ?_
  refine a_iald (pc := 995) (k := 12) (i := 24) (j := 24) (v := 59) C hW (by decide) rfl (by decide) (inb_in (by decide)) rfl dX9_init_995 ?_
  refine a_iast (pc := 996) (k := 5) (i := 24) (j := 24) C hW hS (by decide) rfl ⟨Nat.le_add_right _ _, Nat.add_lt_add_left (by decide) _⟩ (by decide) (inb_in (by decide)) dX9_init_996 (fun H locs hW hS => ?_)
  refine lv_iinc (pc := 997) (v := 25) (lv' := [(1, .int 25), (0, .ref ((z + 80) + 0))]) hx hb dX9_init_997 hl (k := 0) rfl (by decide) (by decide) rfl (fun ls hl => ?_)
  refine lv_goto (pc := 1000) (tgt := 979) hx hb dX9_init_1000 (by decide) ?_
  refine lv_iload_n (pc := 979) hx hb dX9_init_979 rfl (lv_at hl 0 rfl) ?_
  refine lv_bipush (pc := 980) (v := 37) hx hb dX9_init_980 (by decide) ?_
  refine lv_icmp_ge (pc := 982) (tgt := 1003) hx hb dX9_init_982 (by decide) (fun hc => absurd hc (by decide)) (fun _ => ?_)
  refine lv_aload_n (pc := 985) hx hb dX9_init_985 rfl (lv_at hl 1 rfl) ?_
  refine a_get (pc := 986) (k := 0) (ci := 9) C hW (by decide) rfl rfl lays_X9 7 (by decide) fm_X9_22 (x := .ref ((z + 80) + 5)) rfl dX9_init_986 ?_
  refine lv_iload_n (pc := 989) hx hb dX9_init_989 rfl (lv_at hl 0 rfl) ?_
  refine lv_aload_n (pc := 990) hx hb dX9_init_990 rfl (lv_at hl 1 rfl) ?_
  refine a_get (pc := 991) (k := 0) (ci := 9) C hW (by decide) rfl rfl lays_X9 22 (by decide) fm_X9_43 (x := .ref ((z + 80) + 12)) rfl dX9_init_991 ?_
  refine lv_iload_n (pc := 994) hx hb dX9_init_994 rfl (lv_at hl 0 rfl) ?_
  refine a_iald (pc := 995) (k := 12) (i := 25) (j := 25) (v := 32) C hW (by decide) rfl (by decide) (inb_in (by decide)) rfl dX9_init_995 ?_
  refine a_iast (pc := 996) (k := 5) (i := 25) (j := 25) C hW hS (by decide) rfl ⟨Nat.le_add_right _ _, Nat.add_lt_add_left (by decide) _⟩ (by decide) (inb_in (by decide)) dX9_init_996 (fun H locs hW hS => ?_)
  refine lv_iinc (pc := 997) (v := 26) (lv' := [(1, .int 26), (0, .ref ((z + 80) + 0))]) hx hb dX9_init_997 hl (k := 0) rfl (by decide) (by decide) rfl (fun ls hl => ?_)
  refine lv_goto (pc := 1000) (tgt := 979) hx hb dX9_init_1000 (by decide) ?_
  refine lv_iload_n (pc := 979) hx hb dX9_init_979 rfl (lv_at hl 0 rfl) ?_
  refine lv_bipush (pc := 980) (v := 37) hx hb dX9_init_980 (by decide) ?_
  refine lv_icmp_ge (pc := 982) (tgt := 1003) hx hb dX9_init_982 (by decide) (fun hc => absurd hc (by decide)) (fun _ => ?_)
  refine lv_aload_n (pc := 985) hx hb dX9_init_985 rfl (lv_at hl 1 rfl) ?_
  refine a_get (pc := 986) (k := 0) (ci := 9) C hW (by decide) rfl rfl lays_X9 7 (by decide) fm_X9_22 (x := .ref ((z + 80) + 5)) rfl dX9_init_986 ?_
  refine lv_iload_n (pc := 989) hx hb dX9_init_989 rfl (lv_at hl 0 rfl) ?_
  refine lv_aload_n (pc := 990) hx hb dX9_init_990 rfl (lv_at hl 1 rfl) ?_
  refine a_get (pc := 991) (k := 0) (ci := 9) C hW (by decide) rfl rfl lays_X9 22 (by decide) fm_X9_43 (x := .ref ((z + 80) + 12)) rfl dX9_init_991 ?_
  refine lv_iload_n (pc := 994) hx hb dX9_init_994 rfl (lv_at hl 0 rfl) ?_
  refine a_iald (pc := 995) (k := 12) (i := 26) (j := 26) (v := 115) C hW (by decide) rfl (by decide) (inb_in (by decide)) rfl dX9_init_995 ?_
  refine a_iast (pc := 996) (k := 5) (i := 26) (j := 26) C hW hS (by decide) rfl ⟨Nat.le_add_right _ _, Nat.add_lt_add_left (by decide) _⟩ (by decide) (inb_in (by decide)) dX9_init_996 (fun H locs hW hS => ?_)
  refine lv_iinc (pc := 997) (v := 27) (lv' := [(1, .int 27), (0, .ref ((z + 80) + 0))]) hx hb dX9_init_997 hl (k := 0) rfl (by decide) (by decide) rfl (fun ls hl => ?_)
  refine lv_goto (pc := 1000) (tgt := 979) hx hb dX9_init_1000 (by decide) ?_
  refine lv_iload_n (pc := 979) hx hb dX9_init_979 rfl (lv_at hl 0 rfl) ?_
  refine lv_bipush (pc := 980) (v := 37) hx hb dX9_init_980 (by decide) ?_
  refine lv_icmp_ge (pc := 982) (tgt := 1003) hx hb dX9_init_982 (by decide) (fun hc => absurd hc (by decide)) (fun _ => ?_)
  refine lv_aload_n (pc := 985) hx hb dX9_init_985 rfl (lv_at hl 1 rfl) ?_
  refine a_get (pc := 986) (k := 0) (ci := 9) C hW (by decide) rfl rfl lays_X9 7 (by decide) fm_X9_22 (x := .ref ((z + 80) + 5)) rfl dX9_init_986 ?_
  refine lv_iload_n (pc := 989) hx hb dX9_init_989 rfl (lv_at hl 0 rfl) ?_
  refine lv_aload_n (pc := 990) hx hb dX9_init_990 rfl (lv_at hl 1 rfl) ?_
  refine a_get (pc := 991) (k := 0) (ci := 9) C hW (by decide) rfl rfl lays_X9 22 (by decide) fm_X9_43 (x := .ref ((z + 80) + 12)) rfl dX9_init_991 ?_
  refine lv_iload_n (pc := 994) hx hb dX9_init_994 rfl (lv_at hl 0 rfl) ?_
  refine a_iald (pc := 995) (k := 12) (i := 27) (j := 27) (v := 104) C hW (by decide) rfl (by decide) (inb_in (by decide)) rfl dX9_init_995 ?_
  refine a_iast (pc := 996) (k := 5) (i := 27) (j := 27) C hW hS (by decide) rfl ⟨Nat.le_add_right _ _, Nat.add_lt_add_left (by decide) _⟩ (by decide) (inb_in (by decide)) dX9_init_996 (fun H locs hW hS => ?_)
  refine lv_iinc (pc := 997) (v := 28) (lv' := [(1, .int 28), (0, .ref ((z + 80) + 0))]) hx hb dX9_init_997 hl (k := 0) rfl (by decide) (by decide) rfl (fun ls hl => ?_)
  refine lv_goto (pc := 1000) (tgt := 979) hx hb dX9_init_1000 (by decide) ?_
  refine lv_iload_n (pc := 979) hx hb dX9_init_979 rfl (lv_at hl 0 rfl) ?_
  refine lv_bipush (pc := 980) (v := 37) hx hb dX9_init_980 (by decide) ?_
  refine lv_icmp_ge (pc := 982) (tgt := 1003) hx hb dX9_init_982 (by decide) (fun hc => absurd hc (by decide)) (fun _ => ?_)
  refine lv_aload_n (pc := 985) hx hb dX9_init_985 rfl (lv_at hl 1 rfl) ?_
  refine a_get (pc := 986) (k := 0) (ci := 9) C hW (by decide) rfl rfl lays_X9 7 (by decide) fm_X9_22 (x := .ref ((z + 80) + 5)) rfl dX9_init_986 ?_
  refine lv_iload_n (pc := 989) hx hb dX9_init_989 rfl (lv_at hl 0 rfl) ?_
  refine lv_aload_n (pc := 990) hx hb dX9_init_990 rfl (lv_at hl 1 rfl) ?_
  refine a_get (pc := 991) (k := 0) (ci := 9) C hW (by decide) rfl rfl lays_X9 22 (by decide) fm_X9_43 (x := .ref ((z + 80) + 12)) rfl dX9_init_991 ?_
  refine lv_iload_n (pc := 994) hx hb dX9_init_994 rfl (lv_at hl 0 rfl) ?_
  refine a_iald (pc := 995) (k := 12) (i := 28) (j := 28) (v := 97) C hW (by decide) rfl (by decide) (inb_in (by decide)) rfl dX9_init_995 ?_
  refine a_iast (pc := 996) (k := 5) (i := 28) (j := 28) C hW hS (by decide) rfl ⟨Nat.le_add_right _ _, Nat.add_lt_add_left (by decide) _⟩ (by decide) (inb_in (by decide)) dX9_init_996 (fun H locs hW hS => ?_)
  refine lv_iinc (pc := 997) (v := 29) (lv' := [(1, .int 29), (0, .ref ((z + 80) + 0))]) hx hb dX9_init_997 hl (k := 0) rfl (by decide) (by decide) rfl (fun ls hl => ?_)
  refine lv_goto (pc := 1000) (tgt := 979) hx hb dX9_init_1000 (by decide) ?_
  refine lv_iload_n (pc := 979) hx hb dX9_init_979 rfl (lv_at hl 0 rfl) ?_
  refine lv_bipush (pc := 980) (v := 37) hx hb dX9_init_980 (by decide) ?_
  refine lv_icmp_ge (pc := 982) (tgt := 1003) hx hb dX9_init_982 (by decide) (fun hc => absurd hc (by decide)) (fun _ => ?_)
  refine lv_aload_n (pc := 985) hx hb dX9_init_985 rfl (lv_at hl 1 rfl) ?_
  refine a_get (pc := 986) (k := 0) (ci := 9) C hW (by decide) rfl rfl lays_X9 7 (by decide) fm_X9_22 (x := .ref ((z + 80) + 5)) rfl dX9_init_986 ?_
  refine lv_iload_n (pc := 989) hx hb dX9_init_989 rfl (lv_at hl 0 rfl) ?_
  refine lv_aload_n (pc := 990) hx hb dX9_init_990 rfl (lv_at hl 1 rfl) ?_
  refine a_get (pc := 991) (k := 0) (ci := 9) C hW (by decide) rfl rfl lays_X9 22 (by decide) fm_X9_43 (x := .ref ((z + 80) + 12)) rfl dX9_init_991 ?_
  refine lv_iload_n (pc := 994) hx hb dX9_init_994 rfl (lv_at hl 0 rfl) ?_
  refine a_iald (pc := 995) (k := 12) (i := 29) (j := 29) (v := 109) C hW (by decide) rfl (by decide) (inb_in (by decide)) rfl dX9_init_995 ?_
  refine a_iast (pc := 996) (k := 5) (i := 29) (j := 29) C hW hS (by decide) rfl ⟨Nat.le_add_right _ _, Nat.add_lt_add_left (by decide) _⟩ (by decide) (inb_in (by decide)) dX9_init_996 (fun H locs hW hS => ?_)
  refine lv_iinc (pc := 997) (v := 30) (lv' := [(1, .int 30), (0, .ref ((z + 80) + 0))]) hx hb dX9_init_997 hl (k := 0) rfl (by decide) (by decide) rfl (fun ls hl => ?_)
  refine lv_goto (pc := 1000) (tgt := 979) hx hb dX9_init_1000 (by decide) ?_
  refine lv_iload_n (pc := 979) hx hb dX9_init_979 rfl (lv_at hl 0 rfl) ?_
  refine lv_bipush (pc := 980) (v := 37) hx hb dX9_init_980 (by decide) ?_
  refine lv_icmp_ge (pc := 982) (tgt := 1003) hx hb dX9_init_982 (by decide) (fun hc => absurd hc (by decide)) (fun _ => ?_)
  refine lv_aload_n (pc := 985) hx hb dX9_init_985 rfl (lv_at hl 1 rfl) ?_
  refine a_get (pc := 986) (k := 0) (ci := 9) C hW (by decide) rfl rfl lays_X9 7 (by decide) fm_X9_22 (x := .ref ((z + 80) + 5)) rfl dX9_init_986 ?_
  refine lv_iload_n (pc := 989) hx hb dX9_init_989 rfl (lv_at hl 0 rfl) ?_
  refine lv_aload_n (pc := 990) hx hb dX9_init_990 rfl (lv_at hl 1 rfl) ?_
  refine a_get (pc := 991) (k := 0) (ci := 9) C hW (by decide) rfl rfl lays_X9 22 (by decide) fm_X9_43 (x := .ref ((z + 80) + 12)) rfl dX9_init_991 ?_
  refine lv_iload_n (pc := 994) hx hb dX9_init_994 rfl (lv_at hl 0 rfl) ?_
  refine a_iald (pc := 995) (k := 12) (i := 30) (j := 30) (v := 101) C hW (by decide) rfl (by decide) (inb_in (by decide)) rfl dX9_init_995 ?_
  refine a_iast (pc := 996) (k := 5) (i := 30) (j := 30) C hW hS (by decide) rfl ⟨Nat.le_add_right _ _, Nat.add_lt_add_left (by decide) _⟩ (by decide) (inb_in (by decide)) dX9_init_996 (fun H locs hW hS => ?_)
  refine lv_iinc (pc := 997) (v := 31) (lv' := [(1, .int 31), (0, .ref ((z + 80) + 0))]) hx hb dX9_init_997 hl (k := 0) rfl (by decide) (by decide) rfl (fun ls hl => ?_)
  refine lv_goto (pc := 1000) (tgt := 979) hx hb dX9_init_1000 (by decide) ?_
  refine lv_iload_n (pc := 979) hx hb dX9_init_979 rfl (lv_at hl 0 rfl) ?_
  refine lv_bipush (pc := 980) (v := 37) hx hb dX9_init_980 (by decide) ?_
  refine lv_icmp_ge (pc := 982) (tgt := 1003) hx hb dX9_init_982 (by decide) (fun hc => absurd hc (by decide)) (fun _ => ?_)
  refine lv_aload_n (pc := 985) hx hb dX9_init_985 rfl (lv_at hl 1 rfl) ?_
  refine a_get (pc := 986) (k := 0) (ci := 9) C hW (by decide) rfl rfl lays_X9 7 (by decide) fm_X9_22 (x := .ref ((z + 80) + 5)) rfl dX9_init_986 ?_
  refine lv_iload_n (pc := 989) hx hb dX9_init_989 rfl (lv_at hl 0 rfl) ?_
  refine lv_aload_n (pc := 990) hx hb dX9_init_990 rfl (lv_at hl 1 rfl) ?_
  refine a_get (pc := 991) (k := 0) (ci := 9) C hW (by decide) rfl rfl lays_X9 22 (by decide) fm_X9_43 (x := .ref ((z + 80) + 12)) rfl dX9_init_991 ?_
  refine lv_iload_n (pc := 994) hx hb dX9_init_994 rfl (lv_at hl 0 rfl) ?_
  refine a_iald (pc := 995) (k := 12) (i := 31) (j := 31) (v := 115) C hW (by decide) rfl (by decide) (inb_in (by decide)) rfl dX9_init_995 ?_
  refine a_iast (pc := 996) (k := 5) (i := 31) (j := 31) C hW hS (by decide) rfl ⟨Nat.le_add_right _ _, Nat.add_lt_add_left (by decide) _⟩ (by decide) (inb_in (by decide)) dX9_init_996 (fun H locs hW hS => ?_)
  refine lv_iinc (pc := 997) (v := 32) (lv' := [(1, .int 32), (0, .ref ((z + 80) + 0))]) hx hb dX9_init_997 hl (k := 0) rfl (by decide) (by decide) rfl (fun ls hl => ?_)
  refine lv_goto (pc := 1000) (tgt := 979) hx hb dX9_init_1000 (by decide) ?_
  refine lv_iload_n (pc := 979) hx hb dX9_init_979 rfl (lv_at hl 0 rfl) ?_
  refine lv_bipush (pc := 980) (v := 37) hx hb dX9_init_980 (by decide) ?_
  refine lv_icmp_ge (pc := 982) (tgt := 1003) hx hb dX9_init_982 (by decide) (fun hc => absurd hc (by decide)) (fun _ => ?_)
  refine lv_aload_n (pc := 985) hx hb dX9_init_985 rfl (lv_at hl 1 rfl) ?_
  refine a_get (pc := 986) (k := 0) (ci := 9) C hW (by decide) rfl rfl lays_X9 7 (by decide) fm_X9_22 (x := .ref ((z + 80) + 5)) rfl dX9_init_986 ?_
  refine lv_iload_n (pc := 989) hx hb dX9_init_989 rfl (lv_at hl 0 rfl) ?_
  refine lv_aload_n (pc := 990) hx hb dX9_init_990 rfl (lv_at hl 1 rfl) ?_
  refine a_get (pc := 991) (k := 0) (ci := 9) C hW (by decide) rfl rfl lays_X9 22 (by decide) fm_X9_43 (x := .ref ((z + 80) + 12)) rfl dX9_init_991 ?_
  refine lv_iload_n (pc := 994) hx hb dX9_init_994 rfl (lv_at hl 0 rfl) ?_
  refine a_iald (pc := 995) (k := 12) (i := 32) (j := 32) (v := 32) C hW (by decide) rfl (by decide) (inb_in (by decide)) rfl dX9_init_995 ?_
  refine a_iast (pc := 996) (k := 5) (i := 32) (j := 32) C hW hS (by decide) rfl ⟨Nat.le_add_right _ _, Nat.add_lt_add_left (by decide) _⟩ (by decide) (inb_in (by decide)) dX9_init_996 (fun H locs hW hS => ?_)
  refine lv_iinc (pc := 997) (v := 33) (lv' := [(1, .int 33), (0, .ref ((z + 80) + 0))]) hx hb dX9_init_997 hl (k := 0) rfl (by decide) (by decide) rfl (fun ls hl => ?_)
  refine lv_goto (pc := 1000) (tgt := 979) hx hb dX9_init_1000 (by decide) ?_
  refine lv_iload_n (pc := 979) hx hb dX9_init_979 rfl (lv_at hl 0 rfl) ?_
  refine lv_bipush (pc := 980) (v := 37) hx hb dX9_init_980 (by decide) ?_
  refine lv_icmp_ge (pc := 982) (tgt := 1003) hx hb dX9_init_982 (by decide) (fun hc => absurd hc (by decide)) (fun _ => ?_)
  refine lv_aload_n (pc := 985) hx hb dX9_init_985 rfl (lv_at hl 1 rfl) ?_
  refine a_get (pc := 986) (k := 0) (ci := 9) C hW (by decide) rfl rfl lays_X9 7 (by decide) fm_X9_22 (x := .ref ((z + 80) + 5)) rfl dX9_init_986 ?_
  refine lv_iload_n (pc := 989) hx hb dX9_init_989 rfl (lv_at hl 0 rfl) ?_
  refine lv_aload_n (pc := 990) hx hb dX9_init_990 rfl (lv_at hl 1 rfl) ?_
  refine a_get (pc := 991) (k := 0) (ci := 9) C hW (by decide) rfl rfl lays_X9 22 (by decide) fm_X9_43 (x := .ref ((z + 80) + 12)) rfl dX9_init_991 ?_
  refine lv_iload_n (pc := 994) hx hb dX9_init_994 rfl (lv_at hl 0 rfl) ?_
  refine a_iald (pc := 995) (k := 12) (i := 33) (j := 33) (v := 49) C hW (by decide) rfl (by decide) (inb_in (by decide)) rfl dX9_init_995 ?_
  refine a_iast (pc := 996) (k := 5) (i := 33) (j := 33) C hW hS (by decide) rfl ⟨Nat.le_add_right _ _, Nat.add_lt_add_left (by decide) _⟩ (by decide) (inb_in (by decide)) dX9_init_996 (fun H locs hW hS => ?_)
  refine lv_iinc (pc := 997) (v := 34) (lv' := [(1, .int 34), (0, .ref ((z + 80) + 0))]) hx hb dX9_init_997 hl (k := 0) rfl (by decide) (by decide) rfl (fun ls hl => ?_)
  refine lv_goto (pc := 1000) (tgt := 979) hx hb dX9_init_1000 (by decide) ?_
  refine lv_iload_n (pc := 979) hx hb dX9_init_979 rfl (lv_at hl 0 rfl) ?_
  refine lv_bipush (pc := 980) (v := 37) hx hb dX9_init_980 (by decide) ?_
  refine lv_icmp_ge (pc := 982) (tgt := 1003) hx hb dX9_init_982 (by decide) (fun hc => absurd hc (by decide)) (fun _ => ?_)
  refine lv_aload_n (pc := 985) hx hb dX9_init_985 rfl (lv_at hl 1 rfl) ?_
  refine a_get (pc := 986) (k := 0) (ci := 9) C hW (by decide) rfl rfl lays_X9 7 (by decide) fm_X9_22 (x := .ref ((z + 80) + 5)) rfl dX9_init_986 ?_
  refine lv_iload_n (pc := 989) hx hb dX9_init_989 rfl (lv_at hl 0 rfl) ?_
  refine lv_aload_n (pc := 990) hx hb dX9_init_990 rfl (lv_at hl 1 rfl) ?_
  refine a_get (pc := 991) (k := 0) (ci := 9) C hW (by decide) rfl rfl lays_X9 22 (by decide) fm_X9_43 (x := .ref ((z + 80) + 12)) rfl dX9_init_991 ?_
  refine lv_iload_n (pc := 994) hx hb dX9_init_994 rfl (lv_at hl 0 rfl) ?_
  refine a_iald (pc := 995) (k := 12) (i := 34) (j := 34) (v := 48) C hW (by decide) rfl (by decide) (inb_in (by decide)) rfl dX9_init_995 ?_
  refine a_iast (pc := 996) (k := 5) (i := 34) (j := 34) C hW hS (by decide) rfl ⟨Nat.le_add_right _ _, Nat.add_lt_add_left (by decide) _⟩ (by decide) (inb_in (by decide)) dX9_init_996 (fun H locs hW hS => ?_)
  refine lv_iinc (pc := 997) (v := 35) (lv' := [(1, .int 35), (0, .ref ((z + 80) + 0))]) hx hb dX9_init_997 hl (k := 0) rfl (by decide) (by decide) rfl (fun ls hl => ?_)
  refine lv_goto (pc := 1000) (tgt := 979) hx hb dX9_init_1000 (by decide) ?_
  refine lv_iload_n (pc := 979) hx hb dX9_init_979 rfl (lv_at hl 0 rfl) ?_
  refine lv_bipush (pc := 980) (v := 37) hx hb dX9_init_980 (by decide) ?_
  refine lv_icmp_ge (pc := 982) (tgt := 1003) hx hb dX9_init_982 (by decide) (fun hc => absurd hc (by decide)) (fun _ => ?_)
  refine lv_aload_n (pc := 985) hx hb dX9_init_985 rfl (lv_at hl 1 rfl) ?_
  refine a_get (pc := 986) (k := 0) (ci := 9) C hW (by decide) rfl rfl lays_X9 7 (by decide) fm_X9_22 (x := .ref ((z + 80) + 5)) rfl dX9_init_986 ?_
  refine lv_iload_n (pc := 989) hx hb dX9_init_989 rfl (lv_at hl 0 rfl) ?_
  refine lv_aload_n (pc := 990) hx hb dX9_init_990 rfl (lv_at hl 1 rfl) ?_
  refine a_get (pc := 991) (k := 0) (ci := 9) C hW (by decide) rfl rfl lays_X9 22 (by decide) fm_X9_43 (x := .ref ((z + 80) + 12)) rfl dX9_init_991 ?_
  refine lv_iload_n (pc := 994) hx hb dX9_init_994 rfl (lv_at hl 0 rfl) ?_
  refine a_iald (pc := 995) (k := 12) (i := 35) (j := 35) (v := 32) C hW (by decide) rfl (by decide) (inb_in (by decide)) rfl dX9_init_995 ?_
  refine a_iast (pc := 996) (k := 5) (i := 35) (j := 35) C hW hS (by decide) rfl ⟨Nat.le_add_right _ _, Nat.add_lt_add_left (by decide) _⟩ (by decide) (inb_in (by decide)) dX9_init_996 (fun H locs hW hS => ?_)
  refine lv_iinc (pc := 997) (v := 36) (lv' := [(1, .int 36), (0, .ref ((z + 80) + 0))]) hx hb dX9_init_997 hl (k := 0) rfl (by decide) (by decide) rfl (fun ls hl => ?_)
  refine lv_goto (pc := 1000) (tgt := 979) hx hb dX9_init_1000 (by decide) ?_
  refine lv_iload_n (pc := 979) hx hb dX9_init_979 rfl (lv_at hl 0 rfl) ?_
  refine lv_bipush (pc := 980) (v := 37) hx hb dX9_init_980 (by decide) ?_
  refine lv_icmp_ge (pc := 982) (tgt := 1003) hx hb dX9_init_982 (by decide) (fun hc => absurd hc (by decide)) (fun _ => ?_)
  refine lv_aload_n (pc := 985) hx hb dX9_init_985 rfl (lv_at hl 1 rfl) ?_
  refine a_get (pc := 986) (k := 0) (ci := 9) C hW (by decide) rfl rfl lays_X9 7 (by decide) fm_X9_22 (x := .ref ((z + 80) + 5)) rfl dX9_init_986 ?_
  refine lv_iload_n (pc := 989) hx hb dX9_init_989 rfl (lv_at hl 0 rfl) ?_
  refine lv_aload_n (pc := 990) hx hb dX9_init_990 rfl (lv_at hl 1 rfl) ?_
  refine a_get (pc := 991) (k := 0) (ci := 9) C hW (by decide) rfl rfl lays_X9 22 (by decide) fm_X9_43 (x := .ref ((z + 80) + 12)) rfl dX9_init_991 ?_
  refine lv_iload_n (pc := 994) hx hb dX9_init_994 rfl (lv_at hl 0 rfl) ?_
  refine a_iald (pc := 995) (k := 12) (i := 36) (j := 36) (v := 59) C hW (by decide) rfl (by decide) (inb_in (by decide)) rfl dX9_init_995 ?_
  refine a_iast (pc := 996) (k := 5) (i := 36) (j := 36) C hW hS (by decide) rfl ⟨Nat.le_add_right _ _, Nat.add_lt_add_left (by decide) _⟩ (by decide) (inb_in (by decide)) dX9_init_996 (fun H locs hW hS => ?_)
  refine lv_iinc (pc := 997) (v := 37) (lv' := [(1, .int 37), (0, .ref ((z + 80) + 0))]) hx hb dX9_init_997 hl (k := 0) rfl (by decide) (by decide) rfl (fun ls hl => ?_)
  refine lv_goto (pc := 1000) (tgt := 979) hx hb dX9_init_1000 (by decide) ?_
  refine lv_iload_n (pc := 979) hx hb dX9_init_979 rfl (lv_at hl 0 rfl) ?_
  refine lv_bipush (pc := 980) (v := 37) hx hb dX9_init_980 (by decide) ?_
  refine lv_icmp_ge (pc := 982) (tgt := 1003) hx hb dX9_init_982 (by decide) (fun _ => ?_) (fun hc => absurd (by decide) hc)
  refine lv_aload_n (pc := 1003) hx hb dX9_init_1003 rfl (lv_at hl 1 rfl) ?_
  refine lv_bipush (pc := 1004) (v := 37) hx hb dX9_init_1004 (by decide) ?_
  refine a_put (pc := 1006) (k := 0) (ci := 9) C hW hS tyX9 (by decide) rfl ⟨Nat.le_add_right _ _, Nat.add_lt_add_left (by decide) _⟩ rfl lays_X9 tyX9_ok nmX9 8 (by decide) fm_X9_73 rfl (x := .int 37) rfl rfl (Nat.le_of_ble_eq_true rfl) dX9_init_1006 (fun H locs hW hS => ?_)
  replace hW : Wg D (z + 80) 22 (rx5 z ac) H := ⟨hW.1, fun q hq => by
    have h := hW.2 q hq
    revert h
    have hc : q = 0 ∨ q = 1 ∨ q = 2 ∨ q = 3 ∨ q = 4 ∨ q = 5 ∨ q = 6 ∨ q = 7 ∨ q = 8 ∨ q = 9 ∨ q = 10 ∨ q = 11 ∨ q = 12 ∨ q = 13 ∨ q = 14 ∨ q = 15 ∨ q = 16 ∨ q = 17 ∨ q = 18 ∨ q = 19 ∨ q = 20 ∨ q = 21 := by omega
    rcases hc with rfl | rfl | rfl | rfl | rfl | rfl | rfl | rfl | rfl | rfl | rfl | rfl | rfl | rfl | rfl | rfl | rfl | rfl | rfl | rfl | rfl | rfl
    · exact id
    · refine at_ints (cA := ac 0) (N := 6) ?_ _ _
      decide +kernel
    · refine at_ints (cA := ac 0) (N := 6) ?_ _ _
      decide +kernel
    · refine at_ints (cA := ac 0) (N := 24) ?_ _ _
      decide +kernel
    · refine at_ints (cA := ac 0) (N := 48) ?_ _ _
      decide +kernel
    · refine at_ints (cA := ac 0) (N := 160) ?_ _ _
      decide +kernel
    · refine at_ints (cA := ac 0) (N := 1200) ?_ _ _
      decide +kernel
    · refine at_ints (cA := ac 0) (N := 24) ?_ _ _
      decide +kernel
    · refine at_ints (cA := ac 0) (N := 72) ?_ _ _
      decide +kernel
    · refine at_ints (cA := ac 0) (N := 4) ?_ _ _
      decide +kernel
    · refine at_ints (cA := ac 0) (N := 4) ?_ _ _
      decide +kernel
    · refine at_ints (cA := ac 0) (N := 160) ?_ _ _
      decide +kernel
    · refine at_ints (cA := ac 0) (N := 37) ?_ _ _
      decide +kernel
    · refine at_ints (cA := ac 0) (N := 96) ?_ _ _
      decide +kernel
    · refine at_ints (cA := ac 0) (N := 200) ?_ _ _
      decide +kernel
    · refine at_ints (cA := ac 0) (N := 200) ?_ _ _
      decide +kernel
    · refine at_ints (cA := ac 0) (N := 6) ?_ _ _
      decide +kernel
    · refine at_ints (cA := ac 0) (N := 72) ?_ _ _
      decide +kernel
    · refine at_ints (cA := ac 0) (N := 72) ?_ _ _
      decide +kernel
    · refine at_ints (cA := ac 0) (N := 8) ?_ _ _
      decide +kernel
    · refine at_ints (cA := ac 0) (N := 6) ?_ _ _
      decide +kernel
    · refine at_ints (cA := ac 0) (N := 6) ?_ _ _
      decide +kernel
    ⟩
  have hW2 : Wd D (Er ac (z + 80)) inR (z + 80) r0 H := fun q hq => rx_eq q hq _ _ (hW.2 q hq)
  have hz := hW.1
  refine lv_aload_n (pc := 1009) hx hb dX9_init_1009 rfl (lv_at hl 1 rfl) ?_
  refine g_virtZ (pc := 1010) (st2 := [.int r]) (rest := []) C hW2 hS (c_X9_text (K := K - 1) (by omega) hT) mw_X9_77 inR0 Er_0 rfl ⟨by show K - 1 + 1 ≤ K; omega, by show 8 + (3 + 11) + 40 * (K - 1) ≤ 40 * K; omega, Nat.le_of_ble_eq_true rfl, Nat.le_of_ble_eq_true rfl⟩ rfl rfl rfl (Nat.le_of_ble_eq_true rfl) hl.1 dX9_init_1010 (fun H' locs hW hS hz2 => ?_)
  refine lv_pop (pc := 1013) hx hb dX9_init_1013 rfl ?_
  exact W.vret hx hb C.2.1 (fun t ht hWm => ⟨⟨rfl, by rw [ht]; exact ⟨hz2.trans hz, fun q hq => hW q hq⟩⟩, hS.F ht⟩) hS.2.2 dX9_init_1014 C.2.2.1
end
