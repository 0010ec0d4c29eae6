/-! cases of the law -/
section GL
variable {p : Program} {l : Launch} {e : Env} {R : Room} {s : State} {m : MethodId} {args : Array Value} {below : List Frame} {meth : Method} {c : Code} {H : Heap} {locs : List Loc} {cells slots : Nat} {Q : State → Prop}
variable {cc : ByteArray} {nL : Nat} {own : String} {ret : Option FieldType} {D : va_G} {ac : Nat → ClassId} {z idx : Nat} {A : Nat → Prop} {S : SP} {pc : Nat} {ls : Array Slot} {st rest : List Value} {v : Option Value} {aK aV : Nat → Nat}
theorem law_text {RR : Mem → Mem → Prop} (hO : OP_text RR) (hT : ∀ σ τ, RR σ τ → 1 ≤ txn σ) (C : CX code 4 R_law ret D ac p m c s args meth (z, aK, aV) (fun q => z ≤ q)) {b L : Nat} {xs : Nat → Int32} (hX : va_X b L xs s s.heap) (hbl : b < s.heap.size) (hzb : s.heap.size = z) {σ τ : Mem} (hR : RR σ τ) (hW : LWd D ac z s σ τ H locs) {i : Int32} {n : Nat} (hi : i.toInt = (n : Int)) (hn : n + 6 < L) (hL : L ≤ 3584) (hl : lv_has ls 4 [(3, .int i), (2, .ref (z + 80 + 0)), (1, .ref (z + 0)), (0, .ref b)]) (hc : cells + 4 ≤ 600000) (hs : slots + 483 ≤ 7302250)
    (kk : ∀ (σ' τ' : Mem) (H' : Heap) (locs' : List Loc), RR σ' τ' → LWd D ac z s σ' τ' H' locs' → W p l e room_1 s m args below meth c H' locs' (cells + 4) (slots + 483) Q (F0 m 1508 ls [])) : W p l e room_1 s m args below meth c H locs cells slots Q (F0 m 298 ls []) := by
  have hx := C.1.1
  have hb := C.1.2.1
  have hbA : ¬ (fun q => z ≤ q) b := by show ¬ z ≤ b; omega
  obtain ⟨hW8, hW9, hsz, hS⟩ := hW
  obtain ⟨r, σ', τ', e8, e9, hRR⟩ := hO σ τ hR
  have ht0 := hT σ τ hR
  have ht1 := hT σ' τ' hRR
  have r0 : va_at D cls (z + 0, _) H := hW8 0 (kin_0 kdc_0)
  rw [Ek_0 kdc_0] at r0
  refine lv_aload_n (pc := 298) hx hb dL_law_298 rfl (lv_at hl 2 rfl) ?_
  refine t_virt (R := room_1) (Wa := fun H => WC D ac z σ H ∧ H.size = z + (98 + 4 * txn σ)) (pc := 299) (b := z + 0) (st2 := [.int r]) (rest := []) (As := []) C ⟨hW8, hsz⟩ hS (c_X8_text (K := 200) (by omega) e8) (fun q hq => hq.1) mw_L_23 r0 rfl ⟨by decide, by decide, by show cells + 4 ≤ 600000; omega, by show slots + 483 ≤ 7302250; omega⟩ rfl rfl rfl (Nat.le_of_ble_eq_true rfl) hl.1 dL_law_299 (fun H1 locs1 hN f1 hS => ?_)
  have hW8 := hN.1
  have hsz1 := hN.2
  have hW9 : WR D ac (z + 80) τ H1 := fun k hk => (hW9 k hk).kept (f1 _ (by have h : k < 22 := hk; show z + 80 + k < H.size; omega) (by have h : k < 22 := hk; rintro ⟨h1, h2 | h2⟩ <;> simp only at h2 <;> omega))
  refine lv_aload_n (pc := 302) hx hb dL_law_302 rfl (lv_at hl 1 rfl) ?_
  refine l_virt (R := room_1) (pc := 303) (st2 := [.int r, .int r]) (rest := [.int r]) C hW9 hS (c_X9_text (K := 200) (by omega) e9) (fun q hq => by have := hq.1; show z ≤ q; omega) mw_L_27 inR0 Er_0 rfl ⟨by decide, by decide, by show cells + 4 ≤ 600000; omega, by show slots + 483 ≤ 7302250; omega⟩ rfl rfl rfl (Nat.le_of_ble_eq_true rfl) hl.1 dL_law_303 (fun H2 locs2 hW9 f2 z2 hS => ?_)
  have hW8 : WC D ac z σ' H2 := fun k hk => (hW8 k hk).kept (f2 _ (by have h := hk.2; rw [hsz1]; have := ht1; omega) (by have h := inC_ge hk; rintro ⟨h1, h2⟩; omega))
  refine lv_icmp_eq (pc := 306) (tgt := 1508) hx hb dL_law_306 (by decide) (fun _ => ?_) (fun hc => absurd rfl hc)
  refine W.widen (k := cells + 4) (n := slots + 483) (by omega) (by omega) ?_
  exact kk _ _ _ _ hRR ⟨hW8, hW9, z2.trans hsz1, hS⟩
theorem law_force {RR : Mem → Mem → Prop} (hO : OP_force RR) (hT : ∀ σ τ, RR σ τ → 1 ≤ txn σ) (C : CX code 4 R_law ret D ac p m c s args meth (z, aK, aV) (fun q => z ≤ q)) {b L : Nat} {xs : Nat → Int32} (hX : va_X b L xs s s.heap) (hbl : b < s.heap.size) (hzb : s.heap.size = z) {σ τ : Mem} (hR : RR σ τ) (hW : LWd D ac z s σ τ H locs) {i : Int32} {n : Nat} (hi : i.toInt = (n : Int)) (hn : n + 6 < L) (hL : L ≤ 3584) (hl : lv_has ls 4 [(3, .int i), (2, .ref (z + 80 + 0)), (1, .ref (z + 0)), (0, .ref b)]) (hc : cells + 4 ≤ 600000) (hs : slots + 483 ≤ 7302250)
    (kk : ∀ (σ' τ' : Mem) (H' : Heap) (locs' : List Loc), RR σ' τ' → LWd D ac z s σ' τ' H' locs' → W p l e room_1 s m args below meth c H' locs' (cells + 4) (slots + 483) Q (F0 m 1508 ls [])) : W p l e room_1 s m args below meth c H locs cells slots Q (F0 m 311 ls []) := by
  have hx := C.1.1
  have hb := C.1.2.1
  have hbA : ¬ (fun q => z ≤ q) b := by show ¬ z ≤ b; omega
  obtain ⟨hW8, hW9, hsz, hS⟩ := hW
  obtain ⟨r, σ', τ', e8, e9, hRR, ek⟩ := hO σ τ (xs (n + 1)) hR
  have ht0 := hT σ τ hR
  have ht1 := hT σ' τ' hRR
  refine lv_aload_n (pc := 311) hx hb dL_law_311 rfl (lv_at hl 2 rfl) ?_
  refine lv_aload_n (pc := 312) hx hb dL_law_312 rfl (lv_at hl 3 rfl) ?_
  refine lv_iload_n (pc := 313) hx hb dL_law_313 rfl (lv_at hl 0 rfl) ?_
  refine lv_iconst (pc := 314) (v := 1) hx hb dL_law_314 (by decide) ?_
  refine lv_iadd (pc := 315) hx hb dL_law_315 ?_
  refine l_iald (pc := 316) (n := n + 1) C hX hbl hbA hS (add_toInt (d := 1) hi rfl (by omega)) (by omega) dL_law_316 ?_
  refine l_virt (R := room_1) (pc := 317) (st2 := [.int r]) (rest := []) C hW8 hS (c_X8_force (K := 200) (by omega) e8) (fun q hq => hq.1) mw_L_28 (kin_0 kdc_0) (Ek_0 kdc_0) rfl ⟨by decide, by decide, by show cells ≤ 600000; omega, by show slots ≤ 7302250; omega⟩ rfl rfl rfl (Nat.le_of_ble_eq_true rfl) hl.1 dL_law_317 (fun H1 locs1 hW8 f1 z1 hS => ?_)
  have hW9 : WR D ac (z + 80) τ H1 := fun k hk => (hW9 k hk).kept (f1 _ (by have h : k < 22 := hk; show z + 80 + k < H.size; omega) (by have h : k < 22 := hk; rintro ⟨h1, h2⟩; simp only at h2; omega))
  have hsz1 : H1.size = z + (98 + 4 * txn σ') := by rw [z1, hsz]; unfold txn; rw [ek]
  refine lv_aload_n (pc := 320) hx hb dL_law_320 rfl (lv_at hl 1 rfl) ?_
  refine lv_aload_n (pc := 321) hx hb dL_law_321 rfl (lv_at hl 3 rfl) ?_
  refine lv_iload_n (pc := 322) hx hb dL_law_322 rfl (lv_at hl 0 rfl) ?_
  refine lv_iconst (pc := 323) (v := 1) hx hb dL_law_323 (by decide) ?_
  refine lv_iadd (pc := 324) hx hb dL_law_324 ?_
  refine l_iald (pc := 325) (n := n + 1) C hX hbl hbA hS (add_toInt (d := 1) hi rfl (by omega)) (by omega) dL_law_325 ?_
  refine l_virt (R := room_1) (pc := 326) (st2 := [.int r, .int r]) (rest := [.int r]) C hW9 hS (c_X9_force (K := 200) (by omega) e9) (fun q hq => by have := hq.1; show z ≤ q; omega) mw_L_31 inR0 Er_0 rfl ⟨by decide, by decide, by show cells ≤ 600000; omega, by show slots ≤ 7302250; omega⟩ rfl rfl rfl (Nat.le_of_ble_eq_true rfl) hl.1 dL_law_326 (fun H2 locs2 hW9 f2 z2 hS => ?_)
  have hW8 : WC D ac z σ' H2 := fun k hk => (hW8 k hk).kept (f2 _ (by have h := hk.2; rw [hsz1]; have := ht1; omega) (by have h := inC_ge hk; rintro ⟨h1, h2⟩; omega))
  refine lv_icmp_eq (pc := 329) (tgt := 1508) hx hb dL_law_329 (by decide) (fun _ => ?_) (fun hc => absurd rfl hc)
  refine W.widen (k := cells + 4) (n := slots + 483) (by omega) (by omega) ?_
  exact kk _ _ _ _ hRR ⟨hW8, hW9, z2.trans hsz1, hS⟩
theorem law_asks {RR : Mem → Mem → Prop} (hO : OP_asks RR) (hT : ∀ σ τ, RR σ τ → 1 ≤ txn σ) (C : CX code 4 R_law ret D ac p m c s args meth (z, aK, aV) (fun q => z ≤ q)) {b L : Nat} {xs : Nat → Int32} (hX : va_X b L xs s s.heap) (hbl : b < s.heap.size) (hzb : s.heap.size = z) {σ τ : Mem} (hR : RR σ τ) (hW : LWd D ac z s σ τ H locs) {i : Int32} {n : Nat} (hi : i.toInt = (n : Int)) (hn : n + 6 < L) (hL : L ≤ 3584) (hl : lv_has ls 4 [(3, .int i), (2, .ref (z + 80 + 0)), (1, .ref (z + 0)), (0, .ref b)]) (hc : cells + 4 ≤ 600000) (hs : slots + 483 ≤ 7302250)
    (kk : ∀ (σ' τ' : Mem) (H' : Heap) (locs' : List Loc), RR σ' τ' → LWd D ac z s σ' τ' H' locs' → W p l e room_1 s m args below meth c H' locs' (cells + 4) (slots + 483) Q (F0 m 1508 ls [])) : W p l e room_1 s m args below meth c H locs cells slots Q (F0 m 334 ls []) := by
  have hx := C.1.1
  have hb := C.1.2.1
  have hbA : ¬ (fun q => z ≤ q) b := by show ¬ z ≤ b; omega
  obtain ⟨hW8, hW9, hsz, hS⟩ := hW
  obtain ⟨r, σ', τ', e8, e9, hRR, ek⟩ := hO σ τ (xs (n + 1)) (xs (n + 2)) (xs (n + 3)) hR
  have ht0 := hT σ τ hR
  have ht1 := hT σ' τ' hRR
  refine lv_aload_n (pc := 334) hx hb dL_law_334 rfl (lv_at hl 2 rfl) ?_
  refine lv_aload_n (pc := 335) hx hb dL_law_335 rfl (lv_at hl 3 rfl) ?_
  refine lv_iload_n (pc := 336) hx hb dL_law_336 rfl (lv_at hl 0 rfl) ?_
  refine lv_iconst (pc := 337) (v := 1) hx hb dL_law_337 (by decide) ?_
  refine lv_iadd (pc := 338) hx hb dL_law_338 ?_
  refine l_iald (pc := 339) (n := n + 1) C hX hbl hbA hS (add_toInt (d := 1) hi rfl (by omega)) (by omega) dL_law_339 ?_
  refine lv_aload_n (pc := 340) hx hb dL_law_340 rfl (lv_at hl 3 rfl) ?_
  refine lv_iload_n (pc := 341) hx hb dL_law_341 rfl (lv_at hl 0 rfl) ?_
  refine lv_iconst (pc := 342) (v := 2) hx hb dL_law_342 (by decide) ?_
  refine lv_iadd (pc := 343) hx hb dL_law_343 ?_
  refine l_iald (pc := 344) (n := n + 2) C hX hbl hbA hS (add_toInt (d := 2) hi rfl (by omega)) (by omega) dL_law_344 ?_
  refine lv_aload_n (pc := 345) hx hb dL_law_345 rfl (lv_at hl 3 rfl) ?_
  refine lv_iload_n (pc := 346) hx hb dL_law_346 rfl (lv_at hl 0 rfl) ?_
  refine lv_iconst (pc := 347) (v := 3) hx hb dL_law_347 (by decide) ?_
  refine lv_iadd (pc := 348) hx hb dL_law_348 ?_
  refine l_iald (pc := 349) (n := n + 3) C hX hbl hbA hS (add_toInt (d := 3) hi rfl (by omega)) (by omega) dL_law_349 ?_
  refine l_virt (R := room_1) (pc := 350) (st2 := [.int r]) (rest := []) C hW8 hS (c_X8_asks (K := 200) (by omega) e8) (fun q hq => hq.1) mw_L_32 (kin_0 kdc_0) (Ek_0 kdc_0) rfl ⟨by decide, by decide, by show cells ≤ 600000; omega, by show slots ≤ 7302250; omega⟩ rfl rfl rfl (Nat.le_of_ble_eq_true rfl) hl.1 dL_law_350 (fun H1 locs1 hW8 f1 z1 hS => ?_)
  have hW9 : WR D ac (z + 80) τ H1 := fun k hk => (hW9 k hk).kept (f1 _ (by have h : k < 22 := hk; show z + 80 + k < H.size; omega) (by have h : k < 22 := hk; rintro ⟨h1, h2⟩; simp only at h2; omega))
  have hsz1 : H1.size = z + (98 + 4 * txn σ') := by rw [z1, hsz]; unfold txn; rw [ek]
  refine lv_aload_n (pc := 353) hx hb dL_law_353 rfl (lv_at hl 1 rfl) ?_
  refine lv_aload_n (pc := 354) hx hb dL_law_354 rfl (lv_at hl 3 rfl) ?_
  refine lv_iload_n (pc := 355) hx hb dL_law_355 rfl (lv_at hl 0 rfl) ?_
  refine lv_iconst (pc := 356) (v := 1) hx hb dL_law_356 (by decide) ?_
  refine lv_iadd (pc := 357) hx hb dL_law_357 ?_
  refine l_iald (pc := 358) (n := n + 1) C hX hbl hbA hS (add_toInt (d := 1) hi rfl (by omega)) (by omega) dL_law_358 ?_
  refine lv_aload_n (pc := 359) hx hb dL_law_359 rfl (lv_at hl 3 rfl) ?_
  refine lv_iload_n (pc := 360) hx hb dL_law_360 rfl (lv_at hl 0 rfl) ?_
  refine lv_iconst (pc := 361) (v := 2) hx hb dL_law_361 (by decide) ?_
  refine lv_iadd (pc := 362) hx hb dL_law_362 ?_
  refine l_iald (pc := 363) (n := n + 2) C hX hbl hbA hS (add_toInt (d := 2) hi rfl (by omega)) (by omega) dL_law_363 ?_
  refine lv_aload_n (pc := 364) hx hb dL_law_364 rfl (lv_at hl 3 rfl) ?_
  refine lv_iload_n (pc := 365) hx hb dL_law_365 rfl (lv_at hl 0 rfl) ?_
  refine lv_iconst (pc := 366) (v := 3) hx hb dL_law_366 (by decide) ?_
  refine lv_iadd (pc := 367) hx hb dL_law_367 ?_
  refine l_iald (pc := 368) (n := n + 3) C hX hbl hbA hS (add_toInt (d := 3) hi rfl (by omega)) (by omega) dL_law_368 ?_
  refine l_virt (R := room_1) (pc := 369) (st2 := [.int r, .int r]) (rest := [.int r]) C hW9 hS (c_X9_asks (K := 200) (by omega) e9) (fun q hq => by have := hq.1; show z ≤ q; omega) mw_L_36 inR0 Er_0 rfl ⟨by decide, by decide, by show cells ≤ 600000; omega, by show slots ≤ 7302250; omega⟩ rfl rfl rfl (Nat.le_of_ble_eq_true rfl) hl.1 dL_law_369 (fun H2 locs2 hW9 f2 z2 hS => ?_)
  have hW8 : WC D ac z σ' H2 := fun k hk => (hW8 k hk).kept (f2 _ (by have h := hk.2; rw [hsz1]; have := ht1; omega) (by have h := inC_ge hk; rintro ⟨h1, h2⟩; omega))
  refine lv_icmp_eq (pc := 372) (tgt := 1508) hx hb dL_law_372 (by decide) (fun _ => ?_) (fun hc => absurd rfl hc)
  refine W.widen (k := cells + 4) (n := slots + 483) (by omega) (by omega) ?_
  exact kk _ _ _ _ hRR ⟨hW8, hW9, z2.trans hsz1, hS⟩
theorem law_man {RR : Mem → Mem → Prop} (hO : OP_man RR) (hT : ∀ σ τ, RR σ τ → 1 ≤ txn σ) (C : CX code 4 R_law ret D ac p m c s args meth (z, aK, aV) (fun q => z ≤ q)) {b L : Nat} {xs : Nat → Int32} (hX : va_X b L xs s s.heap) (hbl : b < s.heap.size) (hzb : s.heap.size = z) {σ τ : Mem} (hR : RR σ τ) (hW : LWd D ac z s σ τ H locs) {i : Int32} {n : Nat} (hi : i.toInt = (n : Int)) (hn : n + 6 < L) (hL : L ≤ 3584) (hl : lv_has ls 4 [(3, .int i), (2, .ref (z + 80 + 0)), (1, .ref (z + 0)), (0, .ref b)]) (hc : cells + 4 ≤ 600000) (hs : slots + 483 ≤ 7302250)
    (kk : ∀ (σ' τ' : Mem) (H' : Heap) (locs' : List Loc), RR σ' τ' → LWd D ac z s σ' τ' H' locs' → W p l e room_1 s m args below meth c H' locs' (cells + 4) (slots + 483) Q (F0 m 1508 ls [])) : W p l e room_1 s m args below meth c H locs cells slots Q (F0 m 377 ls []) := by
  have hx := C.1.1
  have hb := C.1.2.1
  have hbA : ¬ (fun q => z ≤ q) b := by show ¬ z ≤ b; omega
  obtain ⟨hW8, hW9, hsz, hS⟩ := hW
  obtain ⟨r, σ', τ', e8, e9, hRR, ek⟩ := hO σ τ (xs (n + 1)) (xs (n + 2)) (xs (n + 3)) hR
  have ht0 := hT σ τ hR
  have ht1 := hT σ' τ' hRR
  refine lv_aload_n (pc := 377) hx hb dL_law_377 rfl (lv_at hl 2 rfl) ?_
  refine lv_aload_n (pc := 378) hx hb dL_law_378 rfl (lv_at hl 3 rfl) ?_
  refine lv_iload_n (pc := 379) hx hb dL_law_379 rfl (lv_at hl 0 rfl) ?_
  refine lv_iconst (pc := 380) (v := 1) hx hb dL_law_380 (by decide) ?_
  refine lv_iadd (pc := 381) hx hb dL_law_381 ?_
  refine l_iald (pc := 382) (n := n + 1) C hX hbl hbA hS (add_toInt (d := 1) hi rfl (by omega)) (by omega) dL_law_382 ?_
  refine lv_aload_n (pc := 383) hx hb dL_law_383 rfl (lv_at hl 3 rfl) ?_
  refine lv_iload_n (pc := 384) hx hb dL_law_384 rfl (lv_at hl 0 rfl) ?_
  refine lv_iconst (pc := 385) (v := 2) hx hb dL_law_385 (by decide) ?_
  refine lv_iadd (pc := 386) hx hb dL_law_386 ?_
  refine l_iald (pc := 387) (n := n + 2) C hX hbl hbA hS (add_toInt (d := 2) hi rfl (by omega)) (by omega) dL_law_387 ?_
  refine lv_aload_n (pc := 388) hx hb dL_law_388 rfl (lv_at hl 3 rfl) ?_
  refine lv_iload_n (pc := 389) hx hb dL_law_389 rfl (lv_at hl 0 rfl) ?_
  refine lv_iconst (pc := 390) (v := 3) hx hb dL_law_390 (by decide) ?_
  refine lv_iadd (pc := 391) hx hb dL_law_391 ?_
  refine l_iald (pc := 392) (n := n + 3) C hX hbl hbA hS (add_toInt (d := 3) hi rfl (by omega)) (by omega) dL_law_392 ?_
  refine l_virt (R := room_1) (pc := 393) (st2 := [.int r]) (rest := []) C hW8 hS (c_X8_man (K := 200) (by omega) e8) (fun q hq => hq.1) mw_L_37 (kin_0 kdc_0) (Ek_0 kdc_0) rfl ⟨by decide, by decide, by show cells ≤ 600000; omega, by show slots ≤ 7302250; omega⟩ rfl rfl rfl (Nat.le_of_ble_eq_true rfl) hl.1 dL_law_393 (fun H1 locs1 hW8 f1 z1 hS => ?_)
  have hW9 : WR D ac (z + 80) τ H1 := fun k hk => (hW9 k hk).kept (f1 _ (by have h : k < 22 := hk; show z + 80 + k < H.size; omega) (by have h : k < 22 := hk; rintro ⟨h1, h2⟩; simp only at h2; omega))
  have hsz1 : H1.size = z + (98 + 4 * txn σ') := by rw [z1, hsz]; unfold txn; rw [ek]
  refine lv_aload_n (pc := 396) hx hb dL_law_396 rfl (lv_at hl 1 rfl) ?_
  refine lv_aload_n (pc := 397) hx hb dL_law_397 rfl (lv_at hl 3 rfl) ?_
  refine lv_iload_n (pc := 398) hx hb dL_law_398 rfl (lv_at hl 0 rfl) ?_
  refine lv_iconst (pc := 399) (v := 1) hx hb dL_law_399 (by decide) ?_
  refine lv_iadd (pc := 400) hx hb dL_law_400 ?_
  refine l_iald (pc := 401) (n := n + 1) C hX hbl hbA hS (add_toInt (d := 1) hi rfl (by omega)) (by omega) dL_law_401 ?_
  refine lv_aload_n (pc := 402) hx hb dL_law_402 rfl (lv_at hl 3 rfl) ?_
  refine lv_iload_n (pc := 403) hx hb dL_law_403 rfl (lv_at hl 0 rfl) ?_
  refine lv_iconst (pc := 404) (v := 2) hx hb dL_law_404 (by decide) ?_
  refine lv_iadd (pc := 405) hx hb dL_law_405 ?_
  refine l_iald (pc := 406) (n := n + 2) C hX hbl hbA hS (add_toInt (d := 2) hi rfl (by omega)) (by omega) dL_law_406 ?_
  refine lv_aload_n (pc := 407) hx hb dL_law_407 rfl (lv_at hl 3 rfl) ?_
  refine lv_iload_n (pc := 408) hx hb dL_law_408 rfl (lv_at hl 0 rfl) ?_
  refine lv_iconst (pc := 409) (v := 3) hx hb dL_law_409 (by decide) ?_
  refine lv_iadd (pc := 410) hx hb dL_law_410 ?_
  refine l_iald (pc := 411) (n := n + 3) C hX hbl hbA hS (add_toInt (d := 3) hi rfl (by omega)) (by omega) dL_law_411 ?_
  refine l_virt (R := room_1) (pc := 412) (st2 := [.int r, .int r]) (rest := [.int r]) C hW9 hS (c_X9_man (K := 200) (by omega) e9) (fun q hq => by have := hq.1; show z ≤ q; omega) mw_L_40 inR0 Er_0 rfl ⟨by decide, by decide, by show cells ≤ 600000; omega, by show slots ≤ 7302250; omega⟩ rfl rfl rfl (Nat.le_of_ble_eq_true rfl) hl.1 dL_law_412 (fun H2 locs2 hW9 f2 z2 hS => ?_)
  have hW8 : WC D ac z σ' H2 := fun k hk => (hW8 k hk).kept (f2 _ (by have h := hk.2; rw [hsz1]; have := ht1; omega) (by have h := inC_ge hk; rintro ⟨h1, h2⟩; omega))
  refine lv_icmp_eq (pc := 415) (tgt := 1508) hx hb dL_law_415 (by decide) (fun _ => ?_) (fun hc => absurd rfl hc)
  refine W.widen (k := cells + 4) (n := slots + 483) (by omega) (by omega) ?_
  exact kk _ _ _ _ hRR ⟨hW8, hW9, z2.trans hsz1, hS⟩
theorem law_set {RR : Mem → Mem → Prop} (hO : OP_set RR) (hT : ∀ σ τ, RR σ τ → 1 ≤ txn σ) (C : CX code 4 R_law ret D ac p m c s args meth (z, aK, aV) (fun q => z ≤ q)) {b L : Nat} {xs : Nat → Int32} (hX : va_X b L xs s s.heap) (hbl : b < s.heap.size) (hzb : s.heap.size = z) {σ τ : Mem} (hR : RR σ τ) (hW : LWd D ac z s σ τ H locs) {i : Int32} {n : Nat} (hi : i.toInt = (n : Int)) (hn : n + 6 < L) (hL : L ≤ 3584) (hl : lv_has ls 4 [(3, .int i), (2, .ref (z + 80 + 0)), (1, .ref (z + 0)), (0, .ref b)]) (hc : cells + 4 ≤ 600000) (hs : slots + 483 ≤ 7302250)
    (kk : ∀ (σ' τ' : Mem) (H' : Heap) (locs' : List Loc), RR σ' τ' → LWd D ac z s σ' τ' H' locs' → W p l e room_1 s m args below meth c H' locs' (cells + 4) (slots + 483) Q (F0 m 1508 ls [])) : W p l e room_1 s m args below meth c H locs cells slots Q (F0 m 420 ls []) := by
  have hx := C.1.1
  have hb := C.1.2.1
  have hbA : ¬ (fun q => z ≤ q) b := by show ¬ z ≤ b; omega
  obtain ⟨hW8, hW9, hsz, hS⟩ := hW
  obtain ⟨r, σ', τ', e8, e9, hRR, ek⟩ := hO σ τ (xs (n + 1)) (xs (n + 2)) (xs (n + 3)) hR
  have ht0 := hT σ τ hR
  have ht1 := hT σ' τ' hRR
  refine lv_aload_n (pc := 420) hx hb dL_law_420 rfl (lv_at hl 2 rfl) ?_
  refine lv_aload_n (pc := 421) hx hb dL_law_421 rfl (lv_at hl 3 rfl) ?_
  refine lv_iload_n (pc := 422) hx hb dL_law_422 rfl (lv_at hl 0 rfl) ?_
  refine lv_iconst (pc := 423) (v := 1) hx hb dL_law_423 (by decide) ?_
  refine lv_iadd (pc := 424) hx hb dL_law_424 ?_
  refine l_iald (pc := 425) (n := n + 1) C hX hbl hbA hS (add_toInt (d := 1) hi rfl (by omega)) (by omega) dL_law_425 ?_
  refine lv_aload_n (pc := 426) hx hb dL_law_426 rfl (lv_at hl 3 rfl) ?_
  refine lv_iload_n (pc := 427) hx hb dL_law_427 rfl (lv_at hl 0 rfl) ?_
  refine lv_iconst (pc := 428) (v := 2) hx hb dL_law_428 (by decide) ?_
  refine lv_iadd (pc := 429) hx hb dL_law_429 ?_
  refine l_iald (pc := 430) (n := n + 2) C hX hbl hbA hS (add_toInt (d := 2) hi rfl (by omega)) (by omega) dL_law_430 ?_
  refine lv_aload_n (pc := 431) hx hb dL_law_431 rfl (lv_at hl 3 rfl) ?_
  refine lv_iload_n (pc := 432) hx hb dL_law_432 rfl (lv_at hl 0 rfl) ?_
  refine lv_iconst (pc := 433) (v := 3) hx hb dL_law_433 (by decide) ?_
  refine lv_iadd (pc := 434) hx hb dL_law_434 ?_
  refine l_iald (pc := 435) (n := n + 3) C hX hbl hbA hS (add_toInt (d := 3) hi rfl (by omega)) (by omega) dL_law_435 ?_
  refine l_virt (R := room_1) (pc := 436) (st2 := [.int r]) (rest := []) C hW8 hS (c_X8_set (K := 200) (by omega) e8) (fun q hq => hq.1) mw_L_41 (kin_0 kdc_0) (Ek_0 kdc_0) rfl ⟨by decide, by decide, by show cells ≤ 600000; omega, by show slots ≤ 7302250; omega⟩ rfl rfl rfl (Nat.le_of_ble_eq_true rfl) hl.1 dL_law_436 (fun H1 locs1 hW8 f1 z1 hS => ?_)
  have hW9 : WR D ac (z + 80) τ H1 := fun k hk => (hW9 k hk).kept (f1 _ (by have h : k < 22 := hk; show z + 80 + k < H.size; omega) (by have h : k < 22 := hk; rintro ⟨h1, h2⟩; simp only at h2; omega))
  have hsz1 : H1.size = z + (98 + 4 * txn σ') := by rw [z1, hsz]; unfold txn; rw [ek]
  refine lv_aload_n (pc := 439) hx hb dL_law_439 rfl (lv_at hl 1 rfl) ?_
  refine lv_aload_n (pc := 440) hx hb dL_law_440 rfl (lv_at hl 3 rfl) ?_
  refine lv_iload_n (pc := 441) hx hb dL_law_441 rfl (lv_at hl 0 rfl) ?_
  refine lv_iconst (pc := 442) (v := 1) hx hb dL_law_442 (by decide) ?_
  refine lv_iadd (pc := 443) hx hb dL_law_443 ?_
  refine l_iald (pc := 444) (n := n + 1) C hX hbl hbA hS (add_toInt (d := 1) hi rfl (by omega)) (by omega) dL_law_444 ?_
  refine lv_aload_n (pc := 445) hx hb dL_law_445 rfl (lv_at hl 3 rfl) ?_
  refine lv_iload_n (pc := 446) hx hb dL_law_446 rfl (lv_at hl 0 rfl) ?_
  refine lv_iconst (pc := 447) (v := 2) hx hb dL_law_447 (by decide) ?_
  refine lv_iadd (pc := 448) hx hb dL_law_448 ?_
  refine l_iald (pc := 449) (n := n + 2) C hX hbl hbA hS (add_toInt (d := 2) hi rfl (by omega)) (by omega) dL_law_449 ?_
  refine lv_aload_n (pc := 450) hx hb dL_law_450 rfl (lv_at hl 3 rfl) ?_
  refine lv_iload_n (pc := 451) hx hb dL_law_451 rfl (lv_at hl 0 rfl) ?_
  refine lv_iconst (pc := 452) (v := 3) hx hb dL_law_452 (by decide) ?_
  refine lv_iadd (pc := 453) hx hb dL_law_453 ?_
  refine l_iald (pc := 454) (n := n + 3) C hX hbl hbA hS (add_toInt (d := 3) hi rfl (by omega)) (by omega) dL_law_454 ?_
  refine l_virt (R := room_1) (pc := 455) (st2 := [.int r, .int r]) (rest := [.int r]) C hW9 hS (c_X9_set (K := 200) (by omega) e9) (fun q hq => by have := hq.1; show z ≤ q; omega) mw_L_44 inR0 Er_0 rfl ⟨by decide, by decide, by show cells ≤ 600000; omega, by show slots ≤ 7302250; omega⟩ rfl rfl rfl (Nat.le_of_ble_eq_true rfl) hl.1 dL_law_455 (fun H2 locs2 hW9 f2 z2 hS => ?_)
  have hW8 : WC D ac z σ' H2 := fun k hk => (hW8 k hk).kept (f2 _ (by have h := hk.2; rw [hsz1]; have := ht1; omega) (by have h := inC_ge hk; rintro ⟨h1, h2⟩; omega))
  refine lv_icmp_eq (pc := 458) (tgt := 1508) hx hb dL_law_458 (by decide) (fun _ => ?_) (fun hc => absurd rfl hc)
  refine W.widen (k := cells + 4) (n := slots + 483) (by omega) (by omega) ?_
  exact kk _ _ _ _ hRR ⟨hW8, hW9, z2.trans hsz1, hS⟩
theorem law_told {RR : Mem → Mem → Prop} (hO : OP_told RR) (hT : ∀ σ τ, RR σ τ → 1 ≤ txn σ) (C : CX code 4 R_law ret D ac p m c s args meth (z, aK, aV) (fun q => z ≤ q)) {b L : Nat} {xs : Nat → Int32} (hX : va_X b L xs s s.heap) (hbl : b < s.heap.size) (hzb : s.heap.size = z) {σ τ : Mem} (hR : RR σ τ) (hW : LWd D ac z s σ τ H locs) {i : Int32} {n : Nat} (hi : i.toInt = (n : Int)) (hn : n + 6 < L) (hL : L ≤ 3584) (hl : lv_has ls 4 [(3, .int i), (2, .ref (z + 80 + 0)), (1, .ref (z + 0)), (0, .ref b)]) (hc : cells + 4 ≤ 600000) (hs : slots + 483 ≤ 7302250)
    (kk : ∀ (σ' τ' : Mem) (H' : Heap) (locs' : List Loc), RR σ' τ' → LWd D ac z s σ' τ' H' locs' → W p l e room_1 s m args below meth c H' locs' (cells + 4) (slots + 483) Q (F0 m 1508 ls [])) : W p l e room_1 s m args below meth c H locs cells slots Q (F0 m 463 ls []) := by
  have hx := C.1.1
  have hb := C.1.2.1
  have hbA : ¬ (fun q => z ≤ q) b := by show ¬ z ≤ b; omega
  obtain ⟨hW8, hW9, hsz, hS⟩ := hW
  obtain ⟨r, e8, e9, hRR⟩ := hO σ τ (xs (n + 1)) (xs (n + 2)) hR
  have ht0 := hT σ τ hR
  have ht1 := hT σ τ hRR
  refine lv_aload_n (pc := 463) hx hb dL_law_463 rfl (lv_at hl 2 rfl) ?_
  refine lv_aload_n (pc := 464) hx hb dL_law_464 rfl (lv_at hl 3 rfl) ?_
  refine lv_iload_n (pc := 465) hx hb dL_law_465 rfl (lv_at hl 0 rfl) ?_
  refine lv_iconst (pc := 466) (v := 1) hx hb dL_law_466 (by decide) ?_
  refine lv_iadd (pc := 467) hx hb dL_law_467 ?_
  refine l_iald (pc := 468) (n := n + 1) C hX hbl hbA hS (add_toInt (d := 1) hi rfl (by omega)) (by omega) dL_law_468 ?_
  refine lv_aload_n (pc := 469) hx hb dL_law_469 rfl (lv_at hl 3 rfl) ?_
  refine lv_iload_n (pc := 470) hx hb dL_law_470 rfl (lv_at hl 0 rfl) ?_
  refine lv_iconst (pc := 471) (v := 2) hx hb dL_law_471 (by decide) ?_
  refine lv_iadd (pc := 472) hx hb dL_law_472 ?_
  refine l_iald (pc := 473) (n := n + 2) C hX hbl hbA hS (add_toInt (d := 2) hi rfl (by omega)) (by omega) dL_law_473 ?_
  refine l_virt (R := room_1) (pc := 474) (st2 := [.int r]) (rest := []) C hW8 hS (c_X8_told (K := 200) (by omega) e8) (fun q hq => hq.1) mw_L_45 (kin_0 kdc_0) (Ek_0 kdc_0) rfl ⟨by decide, by decide, by show cells ≤ 600000; omega, by show slots ≤ 7302250; omega⟩ rfl rfl rfl (Nat.le_of_ble_eq_true rfl) hl.1 dL_law_474 (fun H1 locs1 hW8 f1 z1 hS => ?_)
  have hW9 : WR D ac (z + 80) τ H1 := fun k hk => (hW9 k hk).kept (f1 _ (by have h : k < 22 := hk; show z + 80 + k < H.size; omega) (by have h : k < 22 := hk; rintro ⟨h1, h2⟩; simp only at h2; omega))
  have hsz1 : H1.size = z + (98 + 4 * txn σ) := by rw [z1, hsz]
  refine lv_aload_n (pc := 477) hx hb dL_law_477 rfl (lv_at hl 1 rfl) ?_
  refine lv_aload_n (pc := 478) hx hb dL_law_478 rfl (lv_at hl 3 rfl) ?_
  refine lv_iload_n (pc := 479) hx hb dL_law_479 rfl (lv_at hl 0 rfl) ?_
  refine lv_iconst (pc := 480) (v := 1) hx hb dL_law_480 (by decide) ?_
  refine lv_iadd (pc := 481) hx hb dL_law_481 ?_
  refine l_iald (pc := 482) (n := n + 1) C hX hbl hbA hS (add_toInt (d := 1) hi rfl (by omega)) (by omega) dL_law_482 ?_
  refine lv_aload_n (pc := 483) hx hb dL_law_483 rfl (lv_at hl 3 rfl) ?_
  refine lv_iload_n (pc := 484) hx hb dL_law_484 rfl (lv_at hl 0 rfl) ?_
  refine lv_iconst (pc := 485) (v := 2) hx hb dL_law_485 (by decide) ?_
  refine lv_iadd (pc := 486) hx hb dL_law_486 ?_
  refine l_iald (pc := 487) (n := n + 2) C hX hbl hbA hS (add_toInt (d := 2) hi rfl (by omega)) (by omega) dL_law_487 ?_
  refine l_virt (R := room_1) (pc := 488) (st2 := [.int r, .int r]) (rest := [.int r]) C hW9 hS (c_X9_told (K := 200) (by omega) e9) (fun q hq => by have := hq.1; show z ≤ q; omega) mw_L_49 inR0 Er_0 rfl ⟨by decide, by decide, by show cells ≤ 600000; omega, by show slots ≤ 7302250; omega⟩ rfl rfl rfl (Nat.le_of_ble_eq_true rfl) hl.1 dL_law_488 (fun H2 locs2 hW9 f2 z2 hS => ?_)
  have hW8 : WC D ac z σ H2 := fun k hk => (hW8 k hk).kept (f2 _ (by have h := hk.2; rw [hsz1]; have := ht1; omega) (by have h := inC_ge hk; rintro ⟨h1, h2⟩; omega))
  refine lv_icmp_eq (pc := 491) (tgt := 1508) hx hb dL_law_491 (by decide) (fun _ => ?_) (fun hc => absurd rfl hc)
  refine W.widen (k := cells + 4) (n := slots + 483) (by omega) (by omega) ?_
  exact kk _ _ _ _ hRR ⟨hW8, hW9, z2.trans hsz1, hS⟩
theorem law_vow {RR : Mem → Mem → Prop} (hO : OP_vow RR) (hT : ∀ σ τ, RR σ τ → 1 ≤ txn σ) (C : CX code 4 R_law ret D ac p m c s args meth (z, aK, aV) (fun q => z ≤ q)) {b L : Nat} {xs : Nat → Int32} (hX : va_X b L xs s s.heap) (hbl : b < s.heap.size) (hzb : s.heap.size = z) {σ τ : Mem} (hR : RR σ τ) (hW : LWd D ac z s σ τ H locs) {i : Int32} {n : Nat} (hi : i.toInt = (n : Int)) (hn : n + 6 < L) (hL : L ≤ 3584) (hl : lv_has ls 4 [(3, .int i), (2, .ref (z + 80 + 0)), (1, .ref (z + 0)), (0, .ref b)]) (hc : cells + 4 ≤ 600000) (hs : slots + 483 ≤ 7302250)
    (kk : ∀ (σ' τ' : Mem) (H' : Heap) (locs' : List Loc), RR σ' τ' → LWd D ac z s σ' τ' H' locs' → W p l e room_1 s m args below meth c H' locs' (cells + 4) (slots + 483) Q (F0 m 1508 ls [])) : W p l e room_1 s m args below meth c H locs cells slots Q (F0 m 496 ls []) := by
  have hx := C.1.1
  have hb := C.1.2.1
  have hbA : ¬ (fun q => z ≤ q) b := by show ¬ z ≤ b; omega
  obtain ⟨hW8, hW9, hsz, hS⟩ := hW
  obtain ⟨r, σ', τ', e8, e9, hRR, ek⟩ := hO σ τ (xs (n + 1)) (xs (n + 2)) (xs (n + 3)) hR
  have ht0 := hT σ τ hR
  have ht1 := hT σ' τ' hRR
  refine lv_aload_n (pc := 496) hx hb dL_law_496 rfl (lv_at hl 2 rfl) ?_
  refine lv_aload_n (pc := 497) hx hb dL_law_497 rfl (lv_at hl 3 rfl) ?_
  refine lv_iload_n (pc := 498) hx hb dL_law_498 rfl (lv_at hl 0 rfl) ?_
  refine lv_iconst (pc := 499) (v := 1) hx hb dL_law_499 (by decide) ?_
  refine lv_iadd (pc := 500) hx hb dL_law_500 ?_
  refine l_iald (pc := 501) (n := n + 1) C hX hbl hbA hS (add_toInt (d := 1) hi rfl (by omega)) (by omega) dL_law_501 ?_
  refine lv_aload_n (pc := 502) hx hb dL_law_502 rfl (lv_at hl 3 rfl) ?_
  refine lv_iload_n (pc := 503) hx hb dL_law_503 rfl (lv_at hl 0 rfl) ?_
  refine lv_iconst (pc := 504) (v := 2) hx hb dL_law_504 (by decide) ?_
  refine lv_iadd (pc := 505) hx hb dL_law_505 ?_
  refine l_iald (pc := 506) (n := n + 2) C hX hbl hbA hS (add_toInt (d := 2) hi rfl (by omega)) (by omega) dL_law_506 ?_
  refine lv_aload_n (pc := 507) hx hb dL_law_507 rfl (lv_at hl 3 rfl) ?_
  refine lv_iload_n (pc := 508) hx hb dL_law_508 rfl (lv_at hl 0 rfl) ?_
  refine lv_iconst (pc := 509) (v := 3) hx hb dL_law_509 (by decide) ?_
  refine lv_iadd (pc := 510) hx hb dL_law_510 ?_
  refine l_iald (pc := 511) (n := n + 3) C hX hbl hbA hS (add_toInt (d := 3) hi rfl (by omega)) (by omega) dL_law_511 ?_
  refine l_virt (R := room_1) (pc := 512) (st2 := [.int r]) (rest := []) C hW8 hS (c_X8_vow (K := 200) (by omega) e8) (fun q hq => hq.1) mw_L_50 (kin_0 kdc_0) (Ek_0 kdc_0) rfl ⟨by decide, by decide, by show cells ≤ 600000; omega, by show slots ≤ 7302250; omega⟩ rfl rfl rfl (Nat.le_of_ble_eq_true rfl) hl.1 dL_law_512 (fun H1 locs1 hW8 f1 z1 hS => ?_)
  have hW9 : WR D ac (z + 80) τ H1 := fun k hk => (hW9 k hk).kept (f1 _ (by have h : k < 22 := hk; show z + 80 + k < H.size; omega) (by have h : k < 22 := hk; rintro ⟨h1, h2⟩; simp only at h2; omega))
  have hsz1 : H1.size = z + (98 + 4 * txn σ') := by rw [z1, hsz]; unfold txn; rw [ek]
  refine lv_aload_n (pc := 515) hx hb dL_law_515 rfl (lv_at hl 1 rfl) ?_
  refine lv_aload_n (pc := 516) hx hb dL_law_516 rfl (lv_at hl 3 rfl) ?_
  refine lv_iload_n (pc := 517) hx hb dL_law_517 rfl (lv_at hl 0 rfl) ?_
  refine lv_iconst (pc := 518) (v := 1) hx hb dL_law_518 (by decide) ?_
  refine lv_iadd (pc := 519) hx hb dL_law_519 ?_
  refine l_iald (pc := 520) (n := n + 1) C hX hbl hbA hS (add_toInt (d := 1) hi rfl (by omega)) (by omega) dL_law_520 ?_
  refine lv_aload_n (pc := 521) hx hb dL_law_521 rfl (lv_at hl 3 rfl) ?_
  refine lv_iload_n (pc := 522) hx hb dL_law_522 rfl (lv_at hl 0 rfl) ?_
  refine lv_iconst (pc := 523) (v := 2) hx hb dL_law_523 (by decide) ?_
  refine lv_iadd (pc := 524) hx hb dL_law_524 ?_
  refine l_iald (pc := 525) (n := n + 2) C hX hbl hbA hS (add_toInt (d := 2) hi rfl (by omega)) (by omega) dL_law_525 ?_
  refine lv_aload_n (pc := 526) hx hb dL_law_526 rfl (lv_at hl 3 rfl) ?_
  refine lv_iload_n (pc := 527) hx hb dL_law_527 rfl (lv_at hl 0 rfl) ?_
  refine lv_iconst (pc := 528) (v := 3) hx hb dL_law_528 (by decide) ?_
  refine lv_iadd (pc := 529) hx hb dL_law_529 ?_
  refine l_iald (pc := 530) (n := n + 3) C hX hbl hbA hS (add_toInt (d := 3) hi rfl (by omega)) (by omega) dL_law_530 ?_
  refine l_virt (R := room_1) (pc := 531) (st2 := [.int r, .int r]) (rest := [.int r]) C hW9 hS (c_X9_vow (K := 200) (by omega) e9) (fun q hq => by have := hq.1; show z ≤ q; omega) mw_L_53 inR0 Er_0 rfl ⟨by decide, by decide, by show cells ≤ 600000; omega, by show slots ≤ 7302250; omega⟩ rfl rfl rfl (Nat.le_of_ble_eq_true rfl) hl.1 dL_law_531 (fun H2 locs2 hW9 f2 z2 hS => ?_)
  have hW8 : WC D ac z σ' H2 := fun k hk => (hW8 k hk).kept (f2 _ (by have h := hk.2; rw [hsz1]; have := ht1; omega) (by have h := inC_ge hk; rintro ⟨h1, h2⟩; omega))
  refine lv_icmp_eq (pc := 534) (tgt := 1508) hx hb dL_law_534 (by decide) (fun _ => ?_) (fun hc => absurd rfl hc)
  refine W.widen (k := cells + 4) (n := slots + 483) (by omega) (by omega) ?_
  exact kk _ _ _ _ hRR ⟨hW8, hW9, z2.trans hsz1, hS⟩
theorem law_bond {RR : Mem → Mem → Prop} (hO : OP_bond RR) (hT : ∀ σ τ, RR σ τ → 1 ≤ txn σ) (C : CX code 4 R_law ret D ac p m c s args meth (z, aK, aV) (fun q => z ≤ q)) {b L : Nat} {xs : Nat → Int32} (hX : va_X b L xs s s.heap) (hbl : b < s.heap.size) (hzb : s.heap.size = z) {σ τ : Mem} (hR : RR σ τ) (hW : LWd D ac z s σ τ H locs) {i : Int32} {n : Nat} (hi : i.toInt = (n : Int)) (hn : n + 6 < L) (hL : L ≤ 3584) (hl : lv_has ls 4 [(3, .int i), (2, .ref (z + 80 + 0)), (1, .ref (z + 0)), (0, .ref b)]) (hc : cells + 4 ≤ 600000) (hs : slots + 483 ≤ 7302250)
    (kk : ∀ (σ' τ' : Mem) (H' : Heap) (locs' : List Loc), RR σ' τ' → LWd D ac z s σ' τ' H' locs' → W p l e room_1 s m args below meth c H' locs' (cells + 4) (slots + 483) Q (F0 m 1508 ls [])) : W p l e room_1 s m args below meth c H locs cells slots Q (F0 m 539 ls []) := by
  have hx := C.1.1
  have hb := C.1.2.1
  have hbA : ¬ (fun q => z ≤ q) b := by show ¬ z ≤ b; omega
  obtain ⟨hW8, hW9, hsz, hS⟩ := hW
  obtain ⟨r, e8, e9, hRR⟩ := hO σ τ (xs (n + 1)) (xs (n + 2)) hR
  have ht0 := hT σ τ hR
  have ht1 := hT σ τ hRR
  refine lv_aload_n (pc := 539) hx hb dL_law_539 rfl (lv_at hl 2 rfl) ?_
  refine lv_aload_n (pc := 540) hx hb dL_law_540 rfl (lv_at hl 3 rfl) ?_
  refine lv_iload_n (pc := 541) hx hb dL_law_541 rfl (lv_at hl 0 rfl) ?_
  refine lv_iconst (pc := 542) (v := 1) hx hb dL_law_542 (by decide) ?_
  refine lv_iadd (pc := 543) hx hb dL_law_543 ?_
  refine l_iald (pc := 544) (n := n + 1) C hX hbl hbA hS (add_toInt (d := 1) hi rfl (by omega)) (by omega) dL_law_544 ?_
  refine lv_aload_n (pc := 545) hx hb dL_law_545 rfl (lv_at hl 3 rfl) ?_
  refine lv_iload_n (pc := 546) hx hb dL_law_546 rfl (lv_at hl 0 rfl) ?_
  refine lv_iconst (pc := 547) (v := 2) hx hb dL_law_547 (by decide) ?_
  refine lv_iadd (pc := 548) hx hb dL_law_548 ?_
  refine l_iald (pc := 549) (n := n + 2) C hX hbl hbA hS (add_toInt (d := 2) hi rfl (by omega)) (by omega) dL_law_549 ?_
  refine l_virt (R := room_1) (pc := 550) (st2 := [.int r]) (rest := []) C hW8 hS (c_X8_bond (K := 200) (by omega) e8) (fun q hq => hq.1) mw_L_54 (kin_0 kdc_0) (Ek_0 kdc_0) rfl ⟨by decide, by decide, by show cells ≤ 600000; omega, by show slots ≤ 7302250; omega⟩ rfl rfl rfl (Nat.le_of_ble_eq_true rfl) hl.1 dL_law_550 (fun H1 locs1 hW8 f1 z1 hS => ?_)
  have hW9 : WR D ac (z + 80) τ H1 := fun k hk => (hW9 k hk).kept (f1 _ (by have h : k < 22 := hk; show z + 80 + k < H.size; omega) (by have h : k < 22 := hk; rintro ⟨h1, h2⟩; simp only at h2; omega))
  have hsz1 : H1.size = z + (98 + 4 * txn σ) := by rw [z1, hsz]
  refine lv_aload_n (pc := 553) hx hb dL_law_553 rfl (lv_at hl 1 rfl) ?_
  refine lv_aload_n (pc := 554) hx hb dL_law_554 rfl (lv_at hl 3 rfl) ?_
  refine lv_iload_n (pc := 555) hx hb dL_law_555 rfl (lv_at hl 0 rfl) ?_
  refine lv_iconst (pc := 556) (v := 1) hx hb dL_law_556 (by decide) ?_
  refine lv_iadd (pc := 557) hx hb dL_law_557 ?_
  refine l_iald (pc := 558) (n := n + 1) C hX hbl hbA hS (add_toInt (d := 1) hi rfl (by omega)) (by omega) dL_law_558 ?_
  refine lv_aload_n (pc := 559) hx hb dL_law_559 rfl (lv_at hl 3 rfl) ?_
  refine lv_iload_n (pc := 560) hx hb dL_law_560 rfl (lv_at hl 0 rfl) ?_
  refine lv_iconst (pc := 561) (v := 2) hx hb dL_law_561 (by decide) ?_
  refine lv_iadd (pc := 562) hx hb dL_law_562 ?_
  refine l_iald (pc := 563) (n := n + 2) C hX hbl hbA hS (add_toInt (d := 2) hi rfl (by omega)) (by omega) dL_law_563 ?_
  refine l_virt (R := room_1) (pc := 564) (st2 := [.int r, .int r]) (rest := [.int r]) C hW9 hS (c_X9_bond (K := 200) (by omega) e9) (fun q hq => by have := hq.1; show z ≤ q; omega) mw_L_57 inR0 Er_0 rfl ⟨by decide, by decide, by show cells ≤ 600000; omega, by show slots ≤ 7302250; omega⟩ rfl rfl rfl (Nat.le_of_ble_eq_true rfl) hl.1 dL_law_564 (fun H2 locs2 hW9 f2 z2 hS => ?_)
  have hW8 : WC D ac z σ H2 := fun k hk => (hW8 k hk).kept (f2 _ (by have h := hk.2; rw [hsz1]; have := ht1; omega) (by have h := inC_ge hk; rintro ⟨h1, h2⟩; omega))
  refine lv_icmp_eq (pc := 567) (tgt := 1508) hx hb dL_law_567 (by decide) (fun _ => ?_) (fun hc => absurd rfl hc)
  refine W.widen (k := cells + 4) (n := slots + 483) (by omega) (by omega) ?_
  exact kk _ _ _ _ hRR ⟨hW8, hW9, z2.trans hsz1, hS⟩
end GL
