theorem dJ0_length_8abf5_0 : decode cJ0_length_8abf5 0 = .ok (.aload_n 0, 1) := by decide +kernel
theorem dJ0_length_8abf5_1 : decode cJ0_length_8abf5 1 = .ok (.getfield 9, 3) := by decide +kernel
theorem dJ0_length_8abf5_4 : decode cJ0_length_8abf5 4 = .ok (.arraylength, 1) := by decide +kernel
theorem dJ0_length_8abf5_5 : decode cJ0_length_8abf5 5 = .ok (.aload_n 0, 1) := by decide +kernel
theorem dJ0_length_8abf5_6 : decode cJ0_length_8abf5 6 = .ok (.invokevirtual 335, 3) := by decide +kernel
theorem dJ0_length_8abf5_9 : decode cJ0_length_8abf5 9 = .ok (.ishr, 1) := by decide +kernel
theorem dJ0_length_8abf5_10 : decode cJ0_length_8abf5 10 = .ok (.ireturn, 1) := by decide +kernel
theorem dJ0_charAt_5068e_0 : decode cJ0_charAt_5068e 0 = .ok (.aload_n 0, 1) := by decide +kernel
theorem dJ0_charAt_5068e_1 : decode cJ0_charAt_5068e 1 = .ok (.invokevirtual 492, 3) := by decide +kernel
theorem dJ0_charAt_5068e_4 : decode cJ0_charAt_5068e 4 = .ok (.ifCond .eq 12, 3) := by decide +kernel
theorem dJ0_charAt_5068e_7 : decode cJ0_charAt_5068e 7 = .ok (.aload_n 0, 1) := by decide +kernel
theorem dJ0_charAt_5068e_8 : decode cJ0_charAt_5068e 8 = .ok (.getfield 9, 3) := by decide +kernel
theorem dJ0_charAt_5068e_11 : decode cJ0_charAt_5068e 11 = .ok (.iload_n 1, 1) := by decide +kernel
theorem dJ0_charAt_5068e_12 : decode cJ0_charAt_5068e 12 = .ok (.invokestatic 495, 3) := by decide +kernel
theorem dJ0_charAt_5068e_15 : decode cJ0_charAt_5068e 15 = .ok (.ireturn, 1) := by decide +kernel
theorem dJ0_charAt_5068e_16 : decode cJ0_charAt_5068e 16 = .ok (.aload_n 0, 1) := by decide +kernel
theorem dJ0_charAt_5068e_17 : decode cJ0_charAt_5068e 17 = .ok (.getfield 9, 3) := by decide +kernel
theorem dJ0_charAt_5068e_20 : decode cJ0_charAt_5068e 20 = .ok (.iload_n 1, 1) := by decide +kernel
theorem dJ0_charAt_5068e_21 : decode cJ0_charAt_5068e 21 = .ok (.invokestatic 498, 3) := by decide +kernel
theorem dJ0_charAt_5068e_24 : decode cJ0_charAt_5068e 24 = .ok (.ireturn, 1) := by decide +kernel
theorem dJ0_coder_7d493_0 : decode cJ0_coder_7d493 0 = .ok (.getstatic 38, 3) := by decide +kernel
theorem dJ0_coder_7d493_3 : decode cJ0_coder_7d493 3 = .ok (.ifCond .eq 10, 3) := by decide +kernel
theorem dJ0_coder_7d493_6 : decode cJ0_coder_7d493 6 = .ok (.aload_n 0, 1) := by decide +kernel
theorem dJ0_coder_7d493_7 : decode cJ0_coder_7d493 7 = .ok (.getfield 15, 3) := by decide +kernel
theorem dJ0_coder_7d493_10 : decode cJ0_coder_7d493 10 = .ok (.goto 4, 3) := by decide +kernel
theorem dJ0_coder_7d493_13 : decode cJ0_coder_7d493 13 = .ok (.iconst 1, 1) := by decide +kernel
theorem dJ0_coder_7d493_14 : decode cJ0_coder_7d493 14 = .ok (.ireturn, 1) := by decide +kernel
theorem dJ0_isLatin1_aae02_0 : decode cJ0_isLatin1_aae02 0 = .ok (.getstatic 38, 3) := by decide +kernel
theorem dJ0_isLatin1_aae02_3 : decode cJ0_isLatin1_aae02 3 = .ok (.ifCond .eq 14, 3) := by decide +kernel
theorem dJ0_isLatin1_aae02_6 : decode cJ0_isLatin1_aae02 6 = .ok (.aload_n 0, 1) := by decide +kernel
theorem dJ0_isLatin1_aae02_7 : decode cJ0_isLatin1_aae02 7 = .ok (.getfield 15, 3) := by decide +kernel
theorem dJ0_isLatin1_aae02_10 : decode cJ0_isLatin1_aae02 10 = .ok (.ifCond .ne 7, 3) := by decide +kernel
theorem dJ0_isLatin1_aae02_13 : decode cJ0_isLatin1_aae02 13 = .ok (.iconst 1, 1) := by decide +kernel
theorem dJ0_isLatin1_aae02_14 : decode cJ0_isLatin1_aae02 14 = .ok (.goto 4, 3) := by decide +kernel
theorem dJ0_isLatin1_aae02_17 : decode cJ0_isLatin1_aae02 17 = .ok (.iconst 0, 1) := by decide +kernel
theorem dJ0_isLatin1_aae02_18 : decode cJ0_isLatin1_aae02 18 = .ok (.ireturn, 1) := by decide +kernel
theorem dJ0_checkIndex_df160_0 : decode cJ0_checkIndex_df160 0 = .ok (.iload_n 0, 1) := by decide +kernel
theorem dJ0_checkIndex_df160_1 : decode cJ0_checkIndex_df160 1 = .ok (.iload_n 1, 1) := by decide +kernel
theorem dJ0_checkIndex_df160_2 : decode cJ0_checkIndex_df160 2 = .ok (.getstatic 1053, 3) := by decide +kernel
theorem dJ0_checkIndex_df160_5 : decode cJ0_checkIndex_df160 5 = .ok (.invokestatic 1059, 3) := by decide +kernel
theorem dJ0_checkIndex_df160_8 : decode cJ0_checkIndex_df160 8 = .ok (.pop, 1) := by decide +kernel
theorem dJ0_checkIndex_df160_9 : decode cJ0_checkIndex_df160 9 = .ok (.return_, 1) := by decide +kernel
theorem dJ1_charAt_3b067_0 : decode cJ1_charAt_3b067 0 = .ok (.iload_n 1, 1) := by decide +kernel
theorem dJ1_charAt_3b067_1 : decode cJ1_charAt_3b067 1 = .ok (.aload_n 0, 1) := by decide +kernel
theorem dJ1_charAt_3b067_2 : decode cJ1_charAt_3b067 2 = .ok (.arraylength, 1) := by decide +kernel
theorem dJ1_charAt_3b067_3 : decode cJ1_charAt_3b067 3 = .ok (.invokestatic 9, 3) := by decide +kernel
theorem dJ1_charAt_3b067_6 : decode cJ1_charAt_3b067 6 = .ok (.aload_n 0, 1) := by decide +kernel
theorem dJ1_charAt_3b067_7 : decode cJ1_charAt_3b067 7 = .ok (.iload_n 1, 1) := by decide +kernel
theorem dJ1_charAt_3b067_8 : decode cJ1_charAt_3b067 8 = .ok (.baload, 1) := by decide +kernel
theorem dJ1_charAt_3b067_9 : decode cJ1_charAt_3b067 9 = .ok (.sipush 255, 3) := by decide +kernel
theorem dJ1_charAt_3b067_12 : decode cJ1_charAt_3b067 12 = .ok (.iand, 1) := by decide +kernel
theorem dJ1_charAt_3b067_13 : decode cJ1_charAt_3b067 13 = .ok (.i2c, 1) := by decide +kernel
theorem dJ1_charAt_3b067_14 : decode cJ1_charAt_3b067 14 = .ok (.ireturn, 1) := by decide +kernel
theorem dJ3_checkIndex_8e157_0 : decode cJ3_checkIndex_8e157 0 = .ok (.iload_n 0, 1) := by decide +kernel
theorem dJ3_checkIndex_8e157_1 : decode cJ3_checkIndex_8e157 1 = .ok (.ifCond .lt 8, 3) := by decide +kernel
theorem dJ3_checkIndex_8e157_4 : decode cJ3_checkIndex_8e157 4 = .ok (.iload_n 0, 1) := by decide +kernel
theorem dJ3_checkIndex_8e157_5 : decode cJ3_checkIndex_8e157 5 = .ok (.iload_n 1, 1) := by decide +kernel
theorem dJ3_checkIndex_8e157_6 : decode cJ3_checkIndex_8e157 6 = .ok (.if_icmp .lt 10, 3) := by decide +kernel
theorem dJ3_checkIndex_8e157_9 : decode cJ3_checkIndex_8e157 9 = .ok (.aload_n 2, 1) := by decide +kernel
theorem dJ3_checkIndex_8e157_10 : decode cJ3_checkIndex_8e157 10 = .ok (.iload_n 0, 1) := by decide +kernel
theorem dJ3_checkIndex_8e157_11 : decode cJ3_checkIndex_8e157 11 = .ok (.iload_n 1, 1) := by decide +kernel
theorem dJ3_checkIndex_8e157_12 : decode cJ3_checkIndex_8e157 12 = .ok (.invokestatic 95, 3) := by decide +kernel
theorem dJ3_checkIndex_8e157_15 : decode cJ3_checkIndex_8e157 15 = .ok (.athrow, 1) := by decide +kernel
theorem dJ3_checkIndex_8e157_16 : decode cJ3_checkIndex_8e157 16 = .ok (.iload_n 0, 1) := by decide +kernel
theorem dJ3_checkIndex_8e157_17 : decode cJ3_checkIndex_8e157 17 = .ok (.ireturn, 1) := by decide +kernel
theorem sfl_v : Cond.fieldLink RJ0 9 "java/lang/String" "value" "[B" ∈ TB := tb_in 1496 (by decide +kernel) rfl
theorem sfl_c : Cond.fieldLink RJ0 15 "java/lang/String" "coder" "B" ∈ TB := tb_in 1497 (by decide +kernel) rfl
theorem sfl_s : Cond.fieldLink RJ0 38 "java/lang/String" "COMPACT_STRINGS" "Z" ∈ TB := tb_in 445 (by decide +kernel) rfl
theorem sfl_f : Cond.fieldLink RJ0 1053 "jdk/internal/util/Preconditions" "SIOOBE_FORMATTER" "Ljava/util/function/BiFunction;" ∈ TB := tb_in 461 (by decide +kernel) rfl
/-! String.length and charAt on the twelve constants; Reader.isWord -/
theorem smw_coder : MW RJ0 335 yJ0_coder_7d493 cJ0_coder_7d493 1 (some .byte) 0 := ⟨tb_in 444 (by decide +kernel) rfl, tb_in 441 (by decide +kernel) rfl, tb_in 442 (by decide +kernel) rfl, tb_in 443 (by decide +kernel) rfl, tb_in 90 (by decide +kernel) rfl, by decide, by decide, by decide +kernel⟩
theorem smw_latin : MW RJ0 492 yJ0_isLatin1_aae02 cJ0_isLatin1_aae02 1 (some .boolean) 0 := ⟨tb_in 454 (by decide +kernel) rfl, tb_in 451 (by decide +kernel) rfl, tb_in 452 (by decide +kernel) rfl, tb_in 453 (by decide +kernel) rfl, tb_in 90 (by decide +kernel) rfl, by decide, by decide, by decide +kernel⟩
theorem smw_char1 : MS RJ0 495 yJ1_charAt_3b067 cJ1_charAt_3b067 2 (some .char) 2 := ⟨tb_in 457 (by decide +kernel) rfl, tb_in 455 (by decide +kernel) rfl, tb_in 456 (by decide +kernel) rfl, tb_in 91 (by decide +kernel) rfl, by decide, by decide, by decide +kernel⟩
theorem smw_chk : MS RJ1 9 yJ0_checkIndex_df160 cJ0_checkIndex_df160 2 none 2 := ⟨tb_in 460 (by decide +kernel) rfl, tb_in 458 (by decide +kernel) rfl, tb_in 459 (by decide +kernel) rfl, tb_in 90 (by decide +kernel) rfl, by decide, by decide, by decide +kernel⟩
theorem smw_pre : MS RJ0 1059 yJ3_checkIndex_8e157 cJ3_checkIndex_8e157 3 (some .int) 3 := ⟨tb_in 465 (by decide +kernel) rfl, tb_in 463 (by decide +kernel) rfl, tb_in 464 (by decide +kernel) rfl, tb_in 92 (by decide +kernel) rfl, by decide, by decide, by decide +kernel⟩
theorem smw_len : MW RX2 119 yJ0_length_8abf5 cJ0_length_8abf5 1 (some .int) 0 := ⟨tb_in 440 (by decide +kernel) rfl, tb_in 437 (by decide +kernel) rfl, tb_in 438 (by decide +kernel) rfl, tb_in 439 (by decide +kernel) rfl, tb_in 90 (by decide +kernel) rfl, by decide, by decide, by decide +kernel⟩
theorem smw_chr : MW RX2 124 yJ0_charAt_5068e cJ0_charAt_5068e 2 (some .char) 1 := ⟨tb_in 450 (by decide +kernel) rfl, tb_in 447 (by decide +kernel) rfl, tb_in 448 (by decide +kernel) rfl, tb_in 449 (by decide +kernel) rfl, tb_in 90 (by decide +kernel) rfl, by decide, by decide, by decide +kernel⟩
section
variable {p : Program} {l : Launch} {e : Env} {s : State} {m : MethodId} {args : Array Value} {below : List Frame} {meth : Method} {c : Code} {D : va_G} {ac : Nat → ClassId} {z : Nat} {aK aV : Nat → Nat} {K : Nat}

theorem va_S.wk {A B : Nat → Prop} {H0 H : Heap} {locs : List Loc} (hAB : ∀ q, A q → B q) (h : va_S A H0 H locs) : va_S B H0 H locs := ⟨h.1, fun q h1 h2 => h.2.1 q h1 (fun h3 => h2 (hAB q h3)), fun l hl => hAB _ (h.2.2 l hl)⟩
theorem g_virtS {H : Heap} {locs : List Loc} {cells slots : Nat} {R : Room} {Q : State → Prop} {cc : ByteArray} {nL : Nat} {own : String} {ret : Option FieldType} {σ σ1 : Mem} {E : Mem → Nat → va_E} {P : Mem → Nat → Prop} {A : Nat → Prop} {S : SP} {pc : Nat} {ls : Array Slot} {st st2 rest : List Value} {v : Option Value} (C : CX cc nL own ret D ac p m c s args meth S A) {i idx maxL K' n : Nat} {As : List Value} {y : MethodName} {bytes : ByteArray} {ret' : Option FieldType} (hy : y.cls = "java/lang/String") (hW : Wd D E P z σ H) (hS : va_S A s.heap H locs)
    (hM : MC l D E P z ac S A y bytes maxL ret' K' (.ref (S.2.1 i) :: As) σ v σ1) (mw : MW own idx y bytes maxL ret' n) (hi : i < 12)
    (hR : K' + 1 ≤ R.frames ∧ 8 + (maxL + 11) + 40 * K' ≤ R.locals ∧ cells ≤ R.cells ∧ slots ≤ R.slots) (hn : As.length = n) (hst : st = As.reverse ++ .ref (S.2.1 i) :: rest) (hst2 : v.toList ++ rest = st2) (hrest0 : (rest.map fun v => v.category).sum ≤ 8) (hsz : ls.size = nL) (hd : decode cc pc = .ok (.invokevirtual idx, 3))
    (kk : ∀ (H : Heap) (locs : List Loc), Wd D E P z σ1 H → va_S A s.heap H locs → W p l e R s m args below meth c H locs cells slots Q (F0 m (pc + 3) ls st2)) : W p l e R s m args below meth c H locs cells slots Q (F0 m pc ls st) := by
  obtain ⟨hF, hr, hlk, hK, hSX, hA⟩ := C
  subst hst2
  obtain ⟨hx, hb, hml, ho, hts⟩ := id hF
  obtain ⟨m1, m2, m3, m4, m5, m6⟩ := mw
  have cw : CallW R s args own y.cls idx y bytes maxL ret' (wl y bytes maxL ret') (rma K' 0 0) 0 0 n := ⟨callB_of n hts (gIn m1) rfl rfl rfl (hts _ m5) (hts _ m2) m6 ⟨hR.1, hR.2.1⟩, hts _ m3, hts _ m4⟩
  exact g_run (va_runV (As := As) (rest := rest) hF hM cw ⟨Pre.blind, by rw [hy]; exact vk_recv hSX.2.1 hi (va_S.wk hA hS), fun U hU hWm => ⟨rfl, by rw [hU]; exact hW, va_K.moved hWm.alike hK, hSX.step hWm (fun q h1 h2 => by rw [hU]; exact hS.2.1 q h1 (fun h3 => h2 (hA q h3)))⟩⟩ rfl hn hsz hst (lv_room hrest0) hd ⟨hR.2.2.1, hR.2.2.2⟩) hS kk
theorem c_coder {K : Nat} {σ : Mem} {i : Nat} (hi : i < 12) : MC l D (Ec ac z) inC z ac (z, aK, aV) (Ac z) yJ0_coder_7d493 cJ0_coder_7d493 1 (some .byte) K [.ref (aK i)] σ (some (.int 0)) σ := by
  refine MC.of (fun q hq => by have := hq.1; show z ≤ q; omega) (by decide +kernel) (Nat.le_of_ble_eq_true rfl) ?_
  intro p e s m below meth c args C hW ls hl
  replace hl : lv_has ls 1 [(0, .ref (aK i))] := hl
  have hS : va_S (Ac z) s.heap s.heap [] := va_S.rf
  have hx := C.1.1
  have hb := C.1.2.1
  have hS2 := va_S.wk C.2.2.2.2.2 hS
  have hX := C.2.2.2.2.1
  refine va_gets (pc := 0) hx hb hX.2.2.1 hS2 C.1.2.2.2.1 (C.1.2.2.2.2 _ sfl_s) (fun _ h => h) dJ0_coder_7d493_0 ?_
  refine lv_if_eq (pc := 3) (tgt := 13) hx hb dJ0_coder_7d493_3 (by decide) (fun hc => absurd hc (by decide)) (fun _ => ?_)
  refine lv_aload_n (pc := 6) hx hb dJ0_coder_7d493_6 rfl (lv_at hl 0 rfl) ?_
  refine vk_getf (pc := 7) hx hb (hX.2.1.1 i hi).2.1 hS2 C.1.2.2.2.1 (C.1.2.2.2.2 _ sfl_c) (fun _ h => h) dJ0_coder_7d493_7 ?_
  refine lv_goto (pc := 10) (tgt := 14) hx hb dJ0_coder_7d493_10 (by decide) ?_
  exact g_ret (pc := 14) C hW hS rfl dJ0_coder_7d493_14 rfl rfl
theorem c_latin {K : Nat} {σ : Mem} {i : Nat} (hi : i < 12) : MC l D (Ec ac z) inC z ac (z, aK, aV) (Ac z) yJ0_isLatin1_aae02 cJ0_isLatin1_aae02 1 (some .boolean) K [.ref (aK i)] σ (some (.int 1)) σ := by
  refine MC.of (fun q hq => by have := hq.1; show z ≤ q; omega) (by decide +kernel) (Nat.le_of_ble_eq_true rfl) ?_
  intro p e s m below meth c args C hW ls hl
  replace hl : lv_has ls 1 [(0, .ref (aK i))] := hl
  have hS : va_S (Ac z) s.heap s.heap [] := va_S.rf
  have hx := C.1.1
  have hb := C.1.2.1
  have hS2 := va_S.wk C.2.2.2.2.2 hS
  have hX := C.2.2.2.2.1
  refine va_gets (pc := 0) hx hb hX.2.2.1 hS2 C.1.2.2.2.1 (C.1.2.2.2.2 _ sfl_s) (fun _ h => h) dJ0_isLatin1_aae02_0 ?_
  refine lv_if_eq (pc := 3) (tgt := 17) hx hb dJ0_isLatin1_aae02_3 (by decide) (fun hc => absurd hc (by decide)) (fun _ => ?_)
  refine lv_aload_n (pc := 6) hx hb dJ0_isLatin1_aae02_6 rfl (lv_at hl 0 rfl) ?_
  refine vk_getf (pc := 7) hx hb (hX.2.1.1 i hi).2.1 hS2 C.1.2.2.2.1 (C.1.2.2.2.2 _ sfl_c) (fun _ h => h) dJ0_isLatin1_aae02_7 ?_
  refine lv_if_ne (pc := 10) (tgt := 17) hx hb dJ0_isLatin1_aae02_10 (by decide) (fun hc => absurd rfl hc) (fun _ => ?_)
  refine lv_iconst (pc := 13) (v := 1) hx hb dJ0_isLatin1_aae02_13 (by decide) ?_
  refine lv_goto (pc := 14) (tgt := 18) hx hb dJ0_isLatin1_aae02_14 (by decide) ?_
  exact g_ret (pc := 18) C hW hS rfl dJ0_isLatin1_aae02_18 rfl rfl
theorem c_slen {K : Nat} (hK : 1 ≤ K) {σ : Mem} {i : Nat} (hi : i < 12) : MC l D (Ec ac z) inC z ac (z, aK, aV) (Ac z) yJ0_length_8abf5 cJ0_length_8abf5 1 (some .int) K [.ref (aK i)] σ (some (.int (Int32.ofNat (wlen i)))) σ := by
  refine MC.of (fun q hq => by have := hq.1; show z ≤ q; omega) (by decide +kernel) (Nat.le_of_ble_eq_true rfl) ?_
  intro p e s m below meth c args C hW ls hl
  replace hl : lv_has ls 1 [(0, .ref (aK i))] := hl
  have hS : va_S (Ac z) s.heap s.heap [] := va_S.rf
  have hx := C.1.1
  have hb := C.1.2.1
  have hS2 := va_S.wk C.2.2.2.2.2 hS
  have hX := C.2.2.2.2.1
  have hsh : ∀ i, i < 12 → (Int32.ofNat (wlen i)) >>> ((0 : Int32) &&& 31) = Int32.ofNat (wlen i) := by decide +kernel
  refine lv_aload_n (pc := 0) hx hb dJ0_length_8abf5_0 rfl (lv_at hl 0 rfl) ?_
  refine vk_getf (pc := 1) hx hb (hX.2.1.1 i hi).2.2.1 hS2 C.1.2.2.2.1 (C.1.2.2.2.2 _ sfl_v) (fun _ h => h) dJ0_length_8abf5_1 ?_
  refine va_tlen (pc := 4) hx hb (hX.2.1.1 i hi).2.2.2 hS2 (v := Int32.ofNat (wlen i)) rfl dJ0_length_8abf5_4 ?_
  refine lv_aload_n (pc := 5) hx hb dJ0_length_8abf5_5 rfl (lv_at hl 0 rfl) ?_
  refine g_virtS (pc := 6) (st2 := [.int 0, .int (Int32.ofNat (wlen i))]) (rest := [.int (Int32.ofNat (wlen i))]) C rfl hW hS (c_coder (K := K - 1) hi) smw_coder hi (hRoom hK (by decide)) rfl rfl rfl (Nat.le_of_ble_eq_true rfl) hl.1 dJ0_length_8abf5_6 (fun H locs hW hS => ?_)
  refine lv_ishr (pc := 9) hx hb dJ0_length_8abf5_9 ?_
  refine g_top (hsh i hi) ?_
  exact g_ret (pc := 10) C hW hS rfl dJ0_length_8abf5_10 rfl rfl
theorem c_pre {K : Nat} {σ : Mem} {j n : Int32} {x : Value} (hx0 : x = .null ∨ ∃ t, x = .ref t) (h0 : 0 ≤ j) (h1 : j < n) : MC l D (Ec ac z) inC z ac (z, aK, aV) (Ac z) yJ3_checkIndex_8e157 cJ3_checkIndex_8e157 3 (some .int) K [.int j, .int n, x] σ (some (.int j)) σ := by
  have key : ∀ y : Value, (y = .null ∨ ∃ t, y = .ref t) → MC l D (Ec ac z) inC z ac (z, aK, aV) (Ac z) yJ3_checkIndex_8e157 cJ3_checkIndex_8e157 3 (some .int) K [.int j, .int n, y] σ (some (.int j)) σ := by
    intro y hy
    refine MC.of (fun q hq => by have := hq.1; show z ≤ q; omega) (by decide +kernel) (by rcases hy with rfl | ⟨t, rfl⟩ <;> exact Nat.le_of_ble_eq_true rfl) ?_
    intro p e s m below meth c args C hW ls hl
    replace hl : lv_has ls 3 [(0, .int j), (1, .int n)] := lv_sub hl [0, 1] (by rcases hy with rfl | ⟨t, rfl⟩ <;> rfl)
    have hS : va_S (Ac z) s.heap s.heap [] := va_S.rf
    have hx := C.1.1
    have hb := C.1.2.1
    refine lv_iload_n (pc := 0) hx hb dJ3_checkIndex_8e157_0 rfl (lv_at hl 0 rfl) ?_
    refine lv_if_lt (pc := 1) (tgt := 9) hx hb dJ3_checkIndex_8e157_1 (by decide) (fun hc => absurd h0 (Int32.not_le.mpr hc)) (fun _ => ?_)
    refine lv_iload_n (pc := 4) hx hb dJ3_checkIndex_8e157_4 rfl (lv_at hl 0 rfl) ?_
    refine lv_iload_n (pc := 5) hx hb dJ3_checkIndex_8e157_5 rfl (lv_at hl 1 rfl) ?_
    refine lv_icmp_lt (pc := 6) (tgt := 16) hx hb dJ3_checkIndex_8e157_6 (by decide) (fun _ => ?_) (fun hc => absurd h1 hc)
    refine lv_iload_n (pc := 16) hx hb dJ3_checkIndex_8e157_16 rfl (lv_at hl 0 rfl) ?_
    exact g_ret (pc := 17) C hW hS rfl dJ3_checkIndex_8e157_17 rfl rfl
  exact key x hx0
theorem c_chk {K : Nat} (hK : 1 ≤ K) {σ : Mem} {j n : Int32} (h0 : 0 ≤ j) (h1 : j < n) : MC l D (Ec ac z) inC z ac (z, aK, aV) (Ac z) yJ0_checkIndex_df160 cJ0_checkIndex_df160 2 none K [.int j, .int n] σ none σ := by
  refine MC.of (fun q hq => by have := hq.1; show z ≤ q; omega) (by decide +kernel) (Nat.le_of_ble_eq_true rfl) ?_
  intro p e s m below meth c args C hW ls hl
  replace hl : lv_has ls 2 [(0, .int j), (1, .int n)] := hl
  have hS : va_S (Ac z) s.heap s.heap [] := va_S.rf
  have hx := C.1.1
  have hb := C.1.2.1
  have hS2 := va_S.wk C.2.2.2.2.2 hS
  have hX := C.2.2.2.2.1
  refine lv_iload_n (pc := 0) hx hb dJ0_checkIndex_df160_0 rfl (lv_at hl 0 rfl) ?_
  refine lv_iload_n (pc := 1) hx hb dJ0_checkIndex_df160_1 rfl (lv_at hl 1 rfl) ?_
  have key : ∀ x : Value, (x = .null ∨ ∃ t, x = .ref t) → W p l e (rma K 0 0) s m args below meth c s.heap [] 0 0 (MQ below (QV D (Ec ac z) inC z none σ (Ac z)) args s 0 0 (Ac z)) (F0 m (2 + 3) ls [x, .int n, .int j]) := by
    intro x hx0
    refine g_stat (pc := 5) (st2 := [.int j]) (rest := []) C hW hS (c_pre (K := K - 1) hx0 h0 h1) smw_pre (hRoom hK (by decide)) rfl rfl rfl (Nat.le_of_ble_eq_true rfl) hl.1 dJ0_checkIndex_df160_5 (fun H locs hW hS => ?_)
    refine lv_pop (pc := 8) hx hb dJ0_checkIndex_df160_8 rfl ?_
    exact g_vret (pc := 9) C hW hS dJ0_checkIndex_df160_9 rfl rfl
  rcases hX.2.2.2.1 with hZ | ⟨t, hZ⟩
  · exact va_gets (pc := 2) hx hb hZ hS2 C.1.2.2.2.1 (C.1.2.2.2.2 _ sfl_f) (fun _ h => h) dJ0_checkIndex_df160_2 (key _ (Or.inl rfl))
  · exact va_gets (pc := 2) hx hb hZ hS2 C.1.2.2.2.1 (C.1.2.2.2.2 _ sfl_f) (fun _ h => h) dJ0_checkIndex_df160_2 (key _ (Or.inr ⟨t, rfl⟩))
theorem inb_ofNat {j : Int32} {n : Nat} (hn : n < 100) (h : inb j n = true) : 0 ≤ j ∧ j < Int32.ofNat n := by
  simp only [inb, Bool.and_eq_true, decide_eq_true_eq] at h
  refine ⟨h.1, Int32.lt_iff_toInt_lt.mpr ?_⟩
  rw [nn_int h.1, Int32.toInt_ofNat_of_lt (by omega)]
  omega
theorem nar_c : ∀ {i : Nat} (_ : i < 12) {j : Nat} (_ : j < 8), narrow .char (.int (wch i j)) = .int (wch i j) := by
  intro i hi j hj
  have h : ∀ i, i < 12 → ∀ j, j < 8 → narrow .char (.int (wch i j)) = .int (wch i j) := by decide +kernel
  exact h i hi j hj
theorem c_chr1 {K : Nat} (hK : 2 ≤ K) {σ : Mem} {i : Nat} {j : Int32} (hi : i < 12) (hj : inb j (wlen i) = true) : MC l D (Ec ac z) inC z ac (z, aK, aV) (Ac z) yJ1_charAt_3b067 cJ1_charAt_3b067 2 (some .char) K [.ref (aV i), .int j] σ (some (.int (wch i j.toNatClampNeg))) σ := by
  refine MC.of (fun q hq => by have := hq.1; show z ≤ q; omega) (by decide +kernel) (Nat.le_of_ble_eq_true rfl) ?_
  intro p e s m below meth c args C hW ls hl
  replace hl : lv_has ls 2 [(0, .ref (aV i)), (1, .int j)] := hl
  have hS : va_S (Ac z) s.heap s.heap [] := va_S.rf
  have hx := C.1.1
  have hb := C.1.2.1
  have hS2 := va_S.wk C.2.2.2.2.2 hS
  have hX := C.2.2.2.2.1
  have hw : ∀ i, i < 12 → wlen i < 100 := by decide +kernel
  have hv : ∀ i, i < 12 → ∀ j, j < 8 → (((wch i j &&& 255).toUInt32 % 65536).toInt32) = wch i j := by decide +kernel
  have hnr : ∀ i, i < 12 → ∀ j, j < 8 → 0 ≤ wch i j ∧ wch i j < 128 := by decide +kernel
  have h8 : ∀ i, i < 12 → wlen i < 8 := by decide +kernel
  have hj8 : j.toNatClampNeg < 8 := Nat.lt_trans (inb_lt hj) (h8 i hi)
  obtain ⟨j0, j1⟩ := inb_ofNat (hw i hi) hj
  refine lv_iload_n (pc := 0) hx hb dJ1_charAt_3b067_0 rfl (lv_at hl 1 rfl) ?_
  refine lv_aload_n (pc := 1) hx hb dJ1_charAt_3b067_1 rfl (lv_at hl 0 rfl) ?_
  refine va_tlen (pc := 2) hx hb (hX.2.1.1 i hi).2.2.2 hS2 (v := Int32.ofNat (wlen i)) rfl dJ1_charAt_3b067_2 ?_
  refine g_stat (pc := 3) (st2 := []) (rest := []) C hW hS (c_chk (K := K - 1) (by omega) j0 j1) smw_chk (hRoom (by omega) (by decide)) rfl rfl rfl (Nat.le_of_ble_eq_true rfl) hl.1 dJ1_charAt_3b067_3 (fun H locs hW hS => ?_)
  have hS2 := va_S.wk C.2.2.2.2.2 hS
  refine lv_aload_n (pc := 6) hx hb dJ1_charAt_3b067_6 rfl (lv_at hl 0 rfl) ?_
  refine lv_iload_n (pc := 7) hx hb dJ1_charAt_3b067_7 rfl (lv_at hl 1 rfl) ?_
  refine va_tb (pc := 8) hx hb (hX.2.1.1 i hi).2.2.2 hS2 (inb_in hj) (v := .int (wch i j.toNatClampNeg)) rfl dJ1_charAt_3b067_8 ?_
  refine lv_sipush (pc := 9) (v := 255) hx hb dJ1_charAt_3b067_9 (by decide) ?_
  refine lv_iand (pc := 12) hx hb dJ1_charAt_3b067_12 ?_
  refine lv_i2c (pc := 13) (v := wch i j.toNatClampNeg) hx hb dJ1_charAt_3b067_13 (hv i hi _ hj8) ?_
  exact g_ret (pc := 14) C hW hS (nar_c hi hj8) dJ1_charAt_3b067_14 rfl rfl
theorem c_chr {K : Nat} (hK : 3 ≤ K) {σ : Mem} {i : Nat} {j : Int32} (hi : i < 12) (hj : inb j (wlen i) = true) : MC l D (Ec ac z) inC z ac (z, aK, aV) (Ac z) yJ0_charAt_5068e cJ0_charAt_5068e 2 (some .char) K [.ref (aK i), .int j] σ (some (.int (wch i j.toNatClampNeg))) σ := by
  refine MC.of (fun q hq => by have := hq.1; show z ≤ q; omega) (by decide +kernel) (Nat.le_of_ble_eq_true rfl) ?_
  intro p e s m below meth c args C hW ls hl
  replace hl : lv_has ls 2 [(0, .ref (aK i)), (1, .int j)] := hl
  have hS : va_S (Ac z) s.heap s.heap [] := va_S.rf
  have hx := C.1.1
  have hb := C.1.2.1
  have hS2 := va_S.wk C.2.2.2.2.2 hS
  have hX := C.2.2.2.2.1
  have h8 : ∀ i, i < 12 → wlen i < 8 := by decide +kernel
  have hj8 : j.toNatClampNeg < 8 := Nat.lt_trans (inb_lt hj) (h8 i hi)
  refine lv_aload_n (pc := 0) hx hb dJ0_charAt_5068e_0 rfl (lv_at hl 0 rfl) ?_
  refine g_virtS (pc := 1) (st2 := [.int 1]) (rest := []) C rfl hW hS (c_latin (K := K - 1) hi) smw_latin hi (hRoom (by omega) (by decide)) rfl rfl rfl (Nat.le_of_ble_eq_true rfl) hl.1 dJ0_charAt_5068e_1 (fun H locs hW hS => ?_)
  refine lv_if_eq (pc := 4) (tgt := 16) hx hb dJ0_charAt_5068e_4 (by decide) (fun hc => absurd hc (by decide)) (fun _ => ?_)
  have hS2 := va_S.wk C.2.2.2.2.2 hS
  refine lv_aload_n (pc := 7) hx hb dJ0_charAt_5068e_7 rfl (lv_at hl 0 rfl) ?_
  refine vk_getf (pc := 8) hx hb (hX.2.1.1 i hi).2.2.1 hS2 C.1.2.2.2.1 (C.1.2.2.2.2 _ sfl_v) (fun _ h => h) dJ0_charAt_5068e_8 ?_
  refine lv_iload_n (pc := 11) hx hb dJ0_charAt_5068e_11 rfl (lv_at hl 1 rfl) ?_
  refine g_stat (pc := 12) (st2 := [.int (wch i j.toNatClampNeg)]) (rest := []) C hW hS (c_chr1 (K := K - 1) (by omega) hi hj) smw_char1 (hRoom (by omega) (by decide)) rfl rfl rfl (Nat.le_of_ble_eq_true rfl) hl.1 dJ0_charAt_5068e_12 (fun H locs hW hS => ?_)
  exact g_ret (pc := 15) C hW hS (nar_c hi hj8) dJ0_charAt_5068e_15 rfl rfl
theorem w_isWord (C : CX cX2_isWord 5 RX2 (some .boolean) D ac p m c s args meth (z, aK, aV) (Ac z)) (hK : 5 ≤ K) {r : Int32} (σ : Mem) {i : Nat} (hi : i < 12) (v2 v3 : Int32) : ∀ (n : Nat) (v4 : Int32) {H : Heap} {locs : List Loc} {ls : Array Slot} (hW : WC D ac z σ H) (hS : va_S (Ac z) s.heap H locs) (hl : lv_has ls 5 [(0, .ref (z + 9)), (1, .ref (aK i)), (2, .int v2), (3, .int v3), (4, .int v4)]) (h : f_X2_isWord_b15 σ i v2 n v4 = some r), W p l e (rma K 0 0) s m args below meth c H locs 0 0 (MQ below (QV D (Ec ac z) inC z (some (.int r)) σ (Ac z)) args s 0 0 (Ac z)) (F0 m 15 ls []) := by
  have hx := C.1.1
  have hb := C.1.2.1
  intro n
  induction n with
  | zero =>
    intro v4 H locs ls hW hS hl h
    cases h
  | succ n ih =>
    intro v4 H locs ls hW hS hl h
    rw [f_X2_isWord_b15.eq_2] at h
    refine lv_iload (pc := 15) hx hb dX2_isWord_15 (lv_at hl 4 rfl) ?_
    refine lv_aload_n (pc := 17) hx hb dX2_isWord_17 rfl (lv_at hl 1 rfl) ?_
    refine g_virtS (pc := 18) (st2 := [.int (Int32.ofNat (wlen i)), .int v4]) (rest := [.int v4]) C rfl hW hS (c_slen (K := K - 1) (by omega) hi) smw_len hi (hRoom (by omega) (by decide)) rfl rfl rfl (Nat.le_of_ble_eq_true rfl) hl.1 dX2_isWord_18 (fun H locs hW hS => ?_)
    refine lv_icmp_ge (pc := 21) (tgt := 49) hx hb dX2_isWord_21 (by decide) (fun hc0 => ?_) (fun hc0 => ?_)
    · replace h := o_pos hc0 h
      refine lv_iconst (pc := 49) (v := 1) hx hb dX2_isWord_49 (by decide) ?_
      exact g_ret (pc := 50) C hW hS rfl dX2_isWord_50 (congrArg (fun q => some (Value.int q)) (Option.some.inj h).symm) rfl
    · replace h := o_neg hc0 h
      obtain ⟨hc1, h⟩ := o_chk h
      refine lv_aload_n (pc := 24) hx hb dX2_isWord_24 rfl (lv_at hl 1 rfl) ?_
      refine lv_iload (pc := 25) hx hb dX2_isWord_25 (lv_at hl 4 rfl) ?_
      refine g_virtS (pc := 27) (st2 := [.int (wch i v4.toNatClampNeg)]) (rest := []) C rfl hW hS (c_chr (K := K - 1) (by omega) hi hc1) smw_chr hi (hRoom (by omega) (by decide)) rfl rfl rfl (Nat.le_of_ble_eq_true rfl) hl.1 dX2_isWord_27 (fun H locs hW hS => ?_)
      refine lv_aload_n (pc := 30) hx hb dX2_isWord_30 rfl (lv_at hl 0 rfl) ?_
      refine lv_iload_n (pc := 31) hx hb dX2_isWord_31 rfl (lv_at hl 2 rfl) ?_
      refine lv_iload (pc := 32) hx hb dX2_isWord_32 (lv_at hl 4 rfl) ?_
      refine lv_iadd (pc := 34) hx hb dX2_isWord_34 ?_
      obtain ⟨r1, hc2, h⟩ := o_b h
      refine g_virt (pc := 35) (st2 := [.int r1, .int (wch i v4.toNatClampNeg)]) (rest := [.int (wch i v4.toNatClampNeg)]) C hW hS (c_X2_byteAt (K := K - 1) (by omega) hc2) mw_X2_57 (kin_5 kdc_9) (Ek_5 kdc_9) rfl (hRoom (by omega) (by decide)) rfl rfl rfl (Nat.le_of_ble_eq_true rfl) hl.1 dX2_isWord_35 (fun H locs hW hS => ?_)
      refine lv_icmp_eq (pc := 38) (tgt := 43) hx hb dX2_isWord_38 (by decide) (fun hc3 => ?_) (fun hc3 => ?_)
      · replace h := o_pos hc3 h
        refine lv_iinc (pc := 43) (v := (v4 + 1)) (lv' := [(4, .int (v4 + 1)), (0, .ref (z + 9)), (1, .ref (aK i)), (2, .int v2), (3, .int v3)]) hx hb dX2_isWord_43 hl (k := 4) rfl rfl (by decide) rfl (fun ls hl => ?_)
        refine lv_goto (pc := 46) (tgt := 15) hx hb dX2_isWord_46 (by decide) ?_
        exact ih (v4 + 1) hW hS (lv_sub hl [1, 2, 3, 4, 0] rfl) h
      · replace h := o_neg hc3 h
        refine lv_iconst (pc := 41) (v := 0) hx hb dX2_isWord_41 (by decide) ?_
        exact g_ret (pc := 42) C hW hS rfl dX2_isWord_42 (congrArg (fun q => some (Value.int q)) (Option.some.inj h).symm) rfl
theorem c_X2_isWord {K : Nat} (hK : 5 ≤ K) {σ : Mem} {i : Nat} {v2 v3 r : Int32} (hi : i < 12) (h : f_X2_isWord σ i v2 v3 = some r) : MC l D (Ec ac z) inC z ac (z, aK, aV) (Ac z) yX2_isWord cX2_isWord 5 (some .boolean) K [.ref (z + 9), .ref (aK i), .int v2, .int v3] σ (some (.int r)) σ := by
  refine MC.of (fun q hq => by have := hq.1; show z ≤ q; omega) (plainFor_of_name (by decide)) (Nat.le_of_ble_eq_true rfl) ?_
  intro p e s m below meth c args C hW ls hl
  replace hl : lv_has ls 5 [(0, .ref (z + 9)), (1, .ref (aK i)), (2, .int v2), (3, .int v3)] := hl
  have hS : va_S (Ac z) s.heap s.heap [] := va_S.rf
  have hx := C.1.1
  have hb := C.1.2.1
  unfold f_X2_isWord at h
  refine lv_iload_n (pc := 0) hx hb dX2_isWord_0 rfl (lv_at hl 3 rfl) ?_
  refine lv_iload_n (pc := 1) hx hb dX2_isWord_1 rfl (lv_at hl 2 rfl) ?_
  refine lv_isub (pc := 2) hx hb dX2_isWord_2 ?_
  refine lv_aload_n (pc := 3) hx hb dX2_isWord_3 rfl (lv_at hl 1 rfl) ?_
  refine g_virtS (pc := 4) (st2 := [.int (Int32.ofNat (wlen i)), .int (v3 - v2)]) (rest := [.int (v3 - v2)]) C rfl hW hS (c_slen (K := K - 1) (by omega) hi) smw_len hi (hRoom (by omega) (by decide)) rfl rfl rfl (Nat.le_of_ble_eq_true rfl) hl.1 dX2_isWord_4 (fun H locs hW hS => ?_)
  refine lv_icmp_eq (pc := 7) (tgt := 12) hx hb dX2_isWord_7 (by decide) (fun hc0 => ?_) (fun hc0 => ?_)
  · replace h := o_pos hc0 h
    refine lv_iconst (pc := 12) (v := 0) hx hb dX2_isWord_12 (by decide) ?_
    refine lv_istore (pc := 13) (lv' := [(4, .int (0 : Int32)), (0, .ref (z + 9)), (1, .ref (aK i)), (2, .int v2), (3, .int v3)]) hx hb dX2_isWord_13 hl (by decide) rfl (fun ls hl => ?_)
    exact w_isWord C hK σ hi v2 v3 FU 0 hW hS (lv_sub hl [1, 2, 3, 4, 0] rfl) h
  · replace h := o_neg hc0 h
    refine lv_iconst (pc := 10) (v := 0) hx hb dX2_isWord_10 (by decide) ?_
    exact g_ret (pc := 11) C hW hS rfl dX2_isWord_11 (congrArg (fun q => some (Value.int q)) (Option.some.inj h).symm) rfl
end
