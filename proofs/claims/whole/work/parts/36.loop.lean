/-! the loop of the law -/
section GLE
variable {p : Program} {l : Launch} {e : Env} {R : Room} {s : State} {m : MethodId} {args : Array Value} {below : List Frame} {meth : Method} {c : Code} {H : Heap} {locs : List Loc} {cells slots : Nat} {Q : State → Prop}
variable {cc : ByteArray} {nL : Nat} {own : String} {D : va_G} {ac : Nat → ClassId} {z : Nat} {A : Nat → Prop} {S : SP} {pc : Nat} {ls : Array Slot} {rest : List Value} {aK aV : Nat → Nat}
theorem l_alen {retT : Option FieldType} {b L : Nat} {xs : Nat → Int32} (C : CX cc nL own retT D ac p m c s args meth S A) (hX : va_X b L xs s s.heap) (hb : b < s.heap.size) (hbA : ¬ A b) (hS : va_S A s.heap H locs) (hd : decode cc pc = .ok (.arraylength, 1))
    (kk : W p l e R s m args below meth c H locs cells slots Q (F0 m (pc + 1) ls (.int (Int32.ofNat L) :: rest))) : W p l e R s m args below meth c H locs cells slots Q (F0 m pc ls (.ref b :: rest)) := by
  obtain ⟨scr, h1, h2, h3, h4, h5⟩ := hX
  exact W.alen C.1.1 C.1.2.1 (cell := scr) ((hS.2.1 b hb hbA).trans h1) h2 (by rw [h4]) rfl rfl hd kk
theorem len7 {L : Nat} (hL : L ≤ 3584) : (Int32.ofNat L - 7).toInt = (L : Int) - 7 := by
  have e : (Int32.ofNat L).toInt = (L : Int) := by
    have e9 : Int32.size = 4294967296 := rfl
    rw [Int32.toInt_ofNat', e9, Int.bmod_def]
    split <;> omega
  have e7 : (7 : Int32).toInt = 7 := rfl
  rw [Int32.toInt_sub, e, e7, Int.bmod_def]
  split <;> omega
theorem law_end {b L k : Nat} {xs : Nat → Int32} {σ τ : Mem} {i : Int32} (C : CX code 4 R_law ret D ac p m c s #[Value.ref b] meth (z, aK, aV) (fun q => z ≤ q)) (hX : va_X b L xs s s.heap) (hbl : b < s.heap.size) (hzb : s.heap.size = z) (hL : L ≤ 3584) (hi : i.toInt = ((7 * k : Nat) : Int)) (hk : L < 7 * k + 7) (hk2 : 7 * k ≤ L + 7) (hW : LWd D ac z s σ τ H locs) (hl : lv_has ls 4 [(3, .int i), (2, .ref (z + 80 + 0)), (1, .ref (z + 0)), (0, .ref b)]) :
    W p l e room_1 s m #[Value.ref b] below meth c H locs (200 + 4 * k) (20000 + 483 * k) (lw_Z below #[Value.ref b] s) (F0 m 18 ls []) := by
  have hx := C.1.1
  have hb := C.1.2.1
  have hbA : ¬ (fun q => z ≤ q) b := by show ¬ z ≤ b; omega
  refine lv_iload_n (pc := 18) hx hb dL_law_18 rfl (lv_at hl 0 rfl) ?_
  refine lv_aload_n (pc := 19) hx hb dL_law_19 rfl (lv_at hl 3 rfl) ?_
  refine l_alen (pc := 20) C hX hbl hbA hW.2.2.2 dL_law_20 ?_
  refine lv_bipush (pc := 21) (v := 7) hx hb dL_law_21 (by decide) ?_
  refine lv_isub (pc := 23) hx hb dL_law_23 ?_
  refine lv_icmp_gt (pc := 24) (tgt := 1514) hx hb dL_law_24 (by decide) (fun _ => ?_) (fun hc => absurd (Int32.lt_iff_toInt_lt.mpr (by rw [hi, len7 hL]; omega)) hc)
  refine lv_iconst (pc := 1514) (v := 1) hx hb dL_law_1514 (by decide) ?_
  refine va_forget (fun q hq => by have h := hW.2.2.2.2.2 q hq; rw [hzb]; exact h) ?_
  refine W.widen (k := 600000) (n := 7302250) (by omega) (by omega) ?_
  exact lw_ret hx hb C.2.1 C.2.2.1 dL_law_1515
end GLE
section GLL
variable {p : Program} {l : Launch} {e : Env} {s : State} {m : MethodId} {below : List Frame} {meth : Method} {c : Code} {D : va_G} {ac : Nat → ClassId} {z : Nat} {aK aV : Nat → Nat}
theorem law_loop {RR : Mem → Mem → Prop} (hO : OPS RR) (hT : ∀ σ τ, RR σ τ → 1 ≤ txn σ) {b L : Nat} {xs : Nat → Int32} (C : CX code 4 R_law ret D ac p m c s #[Value.ref b] meth (z, aK, aV) (fun q => z ≤ q)) (hX : va_X b L xs s s.heap) (hbl : b < s.heap.size) (hzb : s.heap.size = z) (hL : L ≤ 3584) :
    ∀ (f k : Nat), L < 7 * (k + f) → ∀ (σ τ : Mem) (H : Heap) (locs : List Loc) (ls : Array Slot) (i : Int32), i.toInt = ((7 * k : Nat) : Int) → 7 * k ≤ L + 7 → RR σ τ → LWd D ac z s σ τ H locs → lv_has ls 4 [(3, .int i), (2, .ref (z + 80 + 0)), (1, .ref (z + 0)), (0, .ref b)] →
      W p l e room_1 s m #[Value.ref b] below meth c H locs (200 + 4 * k) (20000 + 483 * k) (lw_Z below #[Value.ref b] s) (F0 m 18 ls []) := by
  have hx := C.1.1
  have hb := C.1.2.1
  have hbA : ¬ (fun q => z ≤ q) b := by show ¬ z ≤ b; omega
  obtain ⟨o_count, o_feed, o_text, o_force, o_asks, o_man, o_set, o_told, o_vow, o_bond, o_plaits, o_pass, o_live, o_run, o_ripe, o_soonest, o_take, o_ring, o_clear, o_net, o_falls, o_pillar, o_day, o_judge, o_kinds, o_since, o_laws, o_whose, o_film, o_drawn, o_odds, o_image, o_back, o_sheet, o_cell, o_copy, o_menBy, o_taken⟩ := hO
  intro f
  induction f with
  | zero =>
    intro k hk σ τ H locs ls i hi hk2 hR hW hl
    exact law_end C hX hbl hzb hL hi (by omega) hk2 hW hl
  | succ f ih =>
    intro k hk σ τ H locs ls i hi hk2 hR hW hl
    by_cases hend : L < 7 * k + 7
    · exact law_end C hX hbl hzb hL hi hend hk2 hW hl
    refine lv_iload_n (pc := 18) hx hb dL_law_18 rfl (lv_at hl 0 rfl) ?_
    refine lv_aload_n (pc := 19) hx hb dL_law_19 rfl (lv_at hl 3 rfl) ?_
    refine l_alen (pc := 20) C hX hbl hbA hW.2.2.2 dL_law_20 ?_
    refine lv_bipush (pc := 21) (v := 7) hx hb dL_law_21 (by decide) ?_
    refine lv_isub (pc := 23) hx hb dL_law_23 ?_
    refine lv_icmp_gt (pc := 24) (tgt := 1514) hx hb dL_law_24 (by decide) (fun hc => absurd (Int32.lt_iff_toInt_lt.mp hc) (by rw [hi, len7 hL]; omega)) (fun _ => ?_)
    refine lv_aload_n (pc := 27) hx hb dL_law_27 rfl (lv_at hl 3 rfl) ?_
    refine lv_iload_n (pc := 28) hx hb dL_law_28 rfl (lv_at hl 0 rfl) ?_
    refine l_iald (pc := 29) (n := 7 * k) C hX hbl hbA hW.2.2.2 hi (by omega) dL_law_29 ?_
    refine lv_bipush (pc := 30) (v := 63) hx hb dL_law_30 (by decide) ?_
    refine lv_iand (pc := 32) hx hb dL_law_32 ?_
    have next : ∀ (σ' τ' : Mem) (H' : Heap) (locs' : List Loc), RR σ' τ' → LWd D ac z s σ' τ' H' locs' → W p l e room_1 s m #[Value.ref b] below meth c H' locs' (200 + 4 * k + 4) (20000 + 483 * k + 483) (lw_Z below #[Value.ref b] s) (F0 m 1508 ls []) := by
      intro σ' τ' H' locs' hR' hW'
      rw [show 200 + 4 * k + 4 = 200 + 4 * (k + 1) by omega, show 20000 + 483 * k + 483 = 20000 + 483 * (k + 1) by omega]
      refine lv_iinc (pc := 1508) (v := i + 7) (lv' := [(3, .int (i + 7)), (2, .ref (z + 80 + 0)), (1, .ref (z + 0)), (0, .ref b)]) hx hb dL_law_1508 hl (k := 0) rfl rfl (by decide) rfl (fun ls hl => ?_)
      refine lv_goto (pc := 1511) (tgt := 18) hx hb dL_law_1511 (by decide) ?_
      have h := ih (k + 1) (by omega) σ' τ' H' locs' ls (i + 7) (by rw [add_toInt (d := 7) hi rfl (by omega)]; rfl) (by omega) hR' hW' hl
      exact h
    generalize xs (7 * k) &&& 63 = x
    by_cases hc0 : x = 0
    · refine lv_tableIn (pc := 33) (off := 167) (tgt := 200) hx hb dL_law_33 (by rw [hc0]; decide) (by rw [hc0]; decide) (by rw [hc0]; rfl) (by decide) ?_
      exact law_count o_count hT C hX hbl hzb hR hW hi (by omega) hL hl (by omega) (by omega) next
    by_cases hc1 : x = 1
    · refine lv_tableIn (pc := 33) (off := 190) (tgt := 223) hx hb dL_law_33 (by rw [hc1]; decide) (by rw [hc1]; decide) (by rw [hc1]; rfl) (by decide) ?_
      exact law_feed o_feed hT C hX hbl hzb hR hW hi (by omega) hL hl (by omega) (by omega) next
    by_cases hc2 : x = 2
    · refine lv_tableIn (pc := 33) (off := 265) (tgt := 298) hx hb dL_law_33 (by rw [hc2]; decide) (by rw [hc2]; decide) (by rw [hc2]; rfl) (by decide) ?_
      exact law_text o_text hT C hX hbl hzb hR hW hi (by omega) hL hl (by omega) (by omega) next
    by_cases hc3 : x = 3
    · refine lv_tableIn (pc := 33) (off := 278) (tgt := 311) hx hb dL_law_33 (by rw [hc3]; decide) (by rw [hc3]; decide) (by rw [hc3]; rfl) (by decide) ?_
      exact law_force o_force hT C hX hbl hzb hR hW hi (by omega) hL hl (by omega) (by omega) next
    by_cases hc4 : x = 4
    · refine lv_tableIn (pc := 33) (off := 301) (tgt := 334) hx hb dL_law_33 (by rw [hc4]; decide) (by rw [hc4]; decide) (by rw [hc4]; rfl) (by decide) ?_
      exact law_asks o_asks hT C hX hbl hzb hR hW hi (by omega) hL hl (by omega) (by omega) next
    by_cases hc5 : x = 5
    · refine lv_tableIn (pc := 33) (off := 344) (tgt := 377) hx hb dL_law_33 (by rw [hc5]; decide) (by rw [hc5]; decide) (by rw [hc5]; rfl) (by decide) ?_
      exact law_man o_man hT C hX hbl hzb hR hW hi (by omega) hL hl (by omega) (by omega) next
    by_cases hc6 : x = 6
    · refine lv_tableIn (pc := 33) (off := 387) (tgt := 420) hx hb dL_law_33 (by rw [hc6]; decide) (by rw [hc6]; decide) (by rw [hc6]; rfl) (by decide) ?_
      exact law_set o_set hT C hX hbl hzb hR hW hi (by omega) hL hl (by omega) (by omega) next
    by_cases hc7 : x = 7
    · refine lv_tableIn (pc := 33) (off := 430) (tgt := 463) hx hb dL_law_33 (by rw [hc7]; decide) (by rw [hc7]; decide) (by rw [hc7]; rfl) (by decide) ?_
      exact law_told o_told hT C hX hbl hzb hR hW hi (by omega) hL hl (by omega) (by omega) next
    by_cases hc8 : x = 8
    · refine lv_tableIn (pc := 33) (off := 463) (tgt := 496) hx hb dL_law_33 (by rw [hc8]; decide) (by rw [hc8]; decide) (by rw [hc8]; rfl) (by decide) ?_
      exact law_vow o_vow hT C hX hbl hzb hR hW hi (by omega) hL hl (by omega) (by omega) next
    by_cases hc9 : x = 9
    · refine lv_tableIn (pc := 33) (off := 506) (tgt := 539) hx hb dL_law_33 (by rw [hc9]; decide) (by rw [hc9]; decide) (by rw [hc9]; rfl) (by decide) ?_
      exact law_bond o_bond hT C hX hbl hzb hR hW hi (by omega) hL hl (by omega) (by omega) next
    by_cases hc10 : x = 10
    · refine lv_tableIn (pc := 33) (off := 539) (tgt := 572) hx hb dL_law_33 (by rw [hc10]; decide) (by rw [hc10]; decide) (by rw [hc10]; rfl) (by decide) ?_
      exact law_plaits o_plaits hT C hX hbl hzb hR hW hi (by omega) hL hl (by omega) (by omega) next
    by_cases hc11 : x = 11
    · refine lv_tableIn (pc := 33) (off := 572) (tgt := 605) hx hb dL_law_33 (by rw [hc11]; decide) (by rw [hc11]; decide) (by rw [hc11]; rfl) (by decide) ?_
      exact law_pass o_pass hT C hX hbl hzb hR hW hi (by omega) hL hl (by omega) (by omega) next
    by_cases hc12 : x = 12
    · refine lv_tableIn (pc := 33) (off := 605) (tgt := 638) hx hb dL_law_33 (by rw [hc12]; decide) (by rw [hc12]; decide) (by rw [hc12]; rfl) (by decide) ?_
      exact law_live o_live hT C hX hbl hzb hR hW hi (by omega) hL hl (by omega) (by omega) next
    by_cases hc13 : x = 13
    · refine lv_tableIn (pc := 33) (off := 618) (tgt := 651) hx hb dL_law_33 (by rw [hc13]; decide) (by rw [hc13]; decide) (by rw [hc13]; rfl) (by decide) ?_
      exact law_run o_run hT C hX hbl hzb hR hW hi (by omega) hL hl (by omega) (by omega) next
    by_cases hc14 : x = 14
    · refine lv_tableIn (pc := 33) (off := 651) (tgt := 684) hx hb dL_law_33 (by rw [hc14]; decide) (by rw [hc14]; decide) (by rw [hc14]; rfl) (by decide) ?_
      exact law_ripe o_ripe hT C hX hbl hzb hR hW hi (by omega) hL hl (by omega) (by omega) next
    by_cases hc15 : x = 15
    · refine lv_tableIn (pc := 33) (off := 684) (tgt := 717) hx hb dL_law_33 (by rw [hc15]; decide) (by rw [hc15]; decide) (by rw [hc15]; rfl) (by decide) ?_
      exact law_soonest o_soonest hT C hX hbl hzb hR hW hi (by omega) hL hl (by omega) (by omega) next
    by_cases hc16 : x = 16
    · refine lv_tableIn (pc := 33) (off := 717) (tgt := 750) hx hb dL_law_33 (by rw [hc16]; decide) (by rw [hc16]; decide) (by rw [hc16]; rfl) (by decide) ?_
      exact law_take o_take hT C hX hbl hzb hR hW hi (by omega) hL hl (by omega) (by omega) next
    by_cases hc17 : x = 17
    · refine lv_tableIn (pc := 33) (off := 760) (tgt := 793) hx hb dL_law_33 (by rw [hc17]; decide) (by rw [hc17]; decide) (by rw [hc17]; rfl) (by decide) ?_
      exact law_ring o_ring hT C hX hbl hzb hR hW hi (by omega) hL hl (by omega) (by omega) next
    by_cases hc18 : x = 18
    · refine lv_tableIn (pc := 33) (off := 783) (tgt := 816) hx hb dL_law_33 (by rw [hc18]; decide) (by rw [hc18]; decide) (by rw [hc18]; rfl) (by decide) ?_
      exact law_clear o_clear hT C hX hbl hzb hR hW hi (by omega) hL hl (by omega) (by omega) next
    by_cases hc19 : x = 19
    · refine lv_tableIn (pc := 33) (off := 796) (tgt := 829) hx hb dL_law_33 (by rw [hc19]; decide) (by rw [hc19]; decide) (by rw [hc19]; rfl) (by decide) ?_
      exact law_net o_net hT C hX hbl hzb hR hW hi (by omega) hL hl (by omega) (by omega) next
    by_cases hc20 : x = 20
    · refine lv_tableIn (pc := 33) (off := 819) (tgt := 852) hx hb dL_law_33 (by rw [hc20]; decide) (by rw [hc20]; decide) (by rw [hc20]; rfl) (by decide) ?_
      exact law_falls o_falls hT C hX hbl hzb hR hW hi (by omega) hL hl (by omega) (by omega) next
    by_cases hc21 : x = 21
    · refine lv_tableIn (pc := 33) (off := 852) (tgt := 885) hx hb dL_law_33 (by rw [hc21]; decide) (by rw [hc21]; decide) (by rw [hc21]; rfl) (by decide) ?_
      exact law_pillar o_pillar hT C hX hbl hzb hR hW hi (by omega) hL hl (by omega) (by omega) next
    by_cases hc22 : x = 22
    · refine lv_tableIn (pc := 33) (off := 875) (tgt := 908) hx hb dL_law_33 (by rw [hc22]; decide) (by rw [hc22]; decide) (by rw [hc22]; rfl) (by decide) ?_
      exact law_day o_day hT C hX hbl hzb hR hW hi (by omega) hL hl (by omega) (by omega) next
    by_cases hc23 : x = 23
    · refine lv_tableIn (pc := 33) (off := 908) (tgt := 941) hx hb dL_law_33 (by rw [hc23]; decide) (by rw [hc23]; decide) (by rw [hc23]; rfl) (by decide) ?_
      exact law_judge o_judge hT C hX hbl hzb hR hW hi (by omega) hL hl (by omega) (by omega) next
    by_cases hc24 : x = 24
    · refine lv_tableIn (pc := 33) (off := 941) (tgt := 974) hx hb dL_law_33 (by rw [hc24]; decide) (by rw [hc24]; decide) (by rw [hc24]; rfl) (by decide) ?_
      exact law_kinds o_kinds hT C hX hbl hzb hR hW hi (by omega) hL hl (by omega) (by omega) next
    by_cases hc25 : x = 25
    · refine lv_tableIn (pc := 33) (off := 984) (tgt := 1017) hx hb dL_law_33 (by rw [hc25]; decide) (by rw [hc25]; decide) (by rw [hc25]; rfl) (by decide) ?_
      exact law_since o_since hT C hX hbl hzb hR hW hi (by omega) hL hl (by omega) (by omega) next
    by_cases hc26 : x = 26
    · refine lv_tableIn (pc := 33) (off := 1018) (tgt := 1051) hx hb dL_law_33 (by rw [hc26]; decide) (by rw [hc26]; decide) (by rw [hc26]; rfl) (by decide) ?_
      exact law_laws o_laws hT C hX hbl hzb hR hW hi (by omega) hL hl (by omega) (by omega) next
    by_cases hc27 : x = 27
    · refine lv_tableIn (pc := 33) (off := 1051) (tgt := 1084) hx hb dL_law_33 (by rw [hc27]; decide) (by rw [hc27]; decide) (by rw [hc27]; rfl) (by decide) ?_
      exact law_whose o_whose hT C hX hbl hzb hR hW hi (by omega) hL hl (by omega) (by omega) next
    by_cases hc28 : x = 28
    · refine lv_tableIn (pc := 33) (off := 1074) (tgt := 1107) hx hb dL_law_33 (by rw [hc28]; decide) (by rw [hc28]; decide) (by rw [hc28]; rfl) (by decide) ?_
      exact law_film o_film hT C hX hbl hzb hR hW hi (by omega) hL hl (by omega) (by omega) next
    by_cases hc29 : x = 29
    · refine lv_tableIn (pc := 33) (off := 1117) (tgt := 1150) hx hb dL_law_33 (by rw [hc29]; decide) (by rw [hc29]; decide) (by rw [hc29]; rfl) (by decide) ?_
      exact law_drawn o_drawn hT C hX hbl hzb hR hW hi (by omega) hL hl (by omega) (by omega) next
    by_cases hc30 : x = 30
    · refine lv_tableIn (pc := 33) (off := 1160) (tgt := 1193) hx hb dL_law_33 (by rw [hc30]; decide) (by rw [hc30]; decide) (by rw [hc30]; rfl) (by decide) ?_
      exact law_odds o_odds hT C hX hbl hzb hR hW hi (by omega) hL hl (by omega) (by omega) next
    by_cases hc31 : x = 31
    · refine lv_tableIn (pc := 33) (off := 1214) (tgt := 1247) hx hb dL_law_33 (by rw [hc31]; decide) (by rw [hc31]; decide) (by rw [hc31]; rfl) (by decide) ?_
      exact law_image o_image hT C hX hbl hzb hR hW hi (by omega) hL hl (by omega) (by omega) next
    by_cases hc32 : x = 32
    · refine lv_tableIn (pc := 33) (off := 1227) (tgt := 1260) hx hb dL_law_33 (by rw [hc32]; decide) (by rw [hc32]; decide) (by rw [hc32]; rfl) (by decide) ?_
      exact law_back o_back hT C hX hbl hzb hR hW hi (by omega) hL hl (by omega) (by omega) next
    by_cases hc33 : x = 33
    · refine lv_tableIn (pc := 33) (off := 1240) (tgt := 1273) hx hb dL_law_33 (by rw [hc33]; decide) (by rw [hc33]; decide) (by rw [hc33]; rfl) (by decide) ?_
      exact law_sheet o_sheet hT C hX hbl hzb hR hW hi (by omega) hL hl (by omega) (by omega) next
    by_cases hc34 : x = 34
    · refine lv_tableIn (pc := 33) (off := 1283) (tgt := 1316) hx hb dL_law_33 (by rw [hc34]; decide) (by rw [hc34]; decide) (by rw [hc34]; rfl) (by decide) ?_
      exact law_cell o_cell hT C hX hbl hzb hR hW hi (by omega) hL hl (by omega) (by omega) next
    by_cases hc35 : x = 35
    · refine lv_tableIn (pc := 33) (off := 1326) (tgt := 1359) hx hb dL_law_33 (by rw [hc35]; decide) (by rw [hc35]; decide) (by rw [hc35]; rfl) (by decide) ?_
      exact law_copy o_copy hT C hX hbl hzb hR hW hi (by omega) hL hl (by omega) (by omega) next
    by_cases hc36 : x = 36
    · refine lv_tableIn (pc := 33) (off := 1389) (tgt := 1422) hx hb dL_law_33 (by rw [hc36]; decide) (by rw [hc36]; decide) (by rw [hc36]; rfl) (by decide) ?_
      exact law_menBy o_menBy hT C hX hbl hzb hR hW hi (by omega) hL hl (by omega) (by omega) next
    by_cases hc37 : x = 37
    · refine lv_tableIn (pc := 33) (off := 1442) (tgt := 1475) hx hb dL_law_33 (by rw [hc37]; decide) (by rw [hc37]; decide) (by rw [hc37]; rfl) (by decide) ?_
      exact law_taken o_taken hT C hX hbl hzb hR hW hi (by omega) hL hl (by omega) (by omega) next
    have hz0 := lv_neT (k := 0) (a := 0) hc0 (by decide)
    have hz1 := lv_neT (k := 1) (a := 1) hc1 (by decide)
    have hz2 := lv_neT (k := 2) (a := 2) hc2 (by decide)
    have hz3 := lv_neT (k := 3) (a := 3) hc3 (by decide)
    have hz4 := lv_neT (k := 4) (a := 4) hc4 (by decide)
    have hz5 := lv_neT (k := 5) (a := 5) hc5 (by decide)
    have hz6 := lv_neT (k := 6) (a := 6) hc6 (by decide)
    have hz7 := lv_neT (k := 7) (a := 7) hc7 (by decide)
    have hz8 := lv_neT (k := 8) (a := 8) hc8 (by decide)
    have hz9 := lv_neT (k := 9) (a := 9) hc9 (by decide)
    have hz10 := lv_neT (k := 10) (a := 10) hc10 (by decide)
    have hz11 := lv_neT (k := 11) (a := 11) hc11 (by decide)
    have hz12 := lv_neT (k := 12) (a := 12) hc12 (by decide)
    have hz13 := lv_neT (k := 13) (a := 13) hc13 (by decide)
    have hz14 := lv_neT (k := 14) (a := 14) hc14 (by decide)
    have hz15 := lv_neT (k := 15) (a := 15) hc15 (by decide)
    have hz16 := lv_neT (k := 16) (a := 16) hc16 (by decide)
    have hz17 := lv_neT (k := 17) (a := 17) hc17 (by decide)
    have hz18 := lv_neT (k := 18) (a := 18) hc18 (by decide)
    have hz19 := lv_neT (k := 19) (a := 19) hc19 (by decide)
    have hz20 := lv_neT (k := 20) (a := 20) hc20 (by decide)
    have hz21 := lv_neT (k := 21) (a := 21) hc21 (by decide)
    have hz22 := lv_neT (k := 22) (a := 22) hc22 (by decide)
    have hz23 := lv_neT (k := 23) (a := 23) hc23 (by decide)
    have hz24 := lv_neT (k := 24) (a := 24) hc24 (by decide)
    have hz25 := lv_neT (k := 25) (a := 25) hc25 (by decide)
    have hz26 := lv_neT (k := 26) (a := 26) hc26 (by decide)
    have hz27 := lv_neT (k := 27) (a := 27) hc27 (by decide)
    have hz28 := lv_neT (k := 28) (a := 28) hc28 (by decide)
    have hz29 := lv_neT (k := 29) (a := 29) hc29 (by decide)
    have hz30 := lv_neT (k := 30) (a := 30) hc30 (by decide)
    have hz31 := lv_neT (k := 31) (a := 31) hc31 (by decide)
    have hz32 := lv_neT (k := 32) (a := 32) hc32 (by decide)
    have hz33 := lv_neT (k := 33) (a := 33) hc33 (by decide)
    have hz34 := lv_neT (k := 34) (a := 34) hc34 (by decide)
    have hz35 := lv_neT (k := 35) (a := 35) hc35 (by decide)
    have hz36 := lv_neT (k := 36) (a := 36) hc36 (by decide)
    have hz37 := lv_neT (k := 37) (a := 37) hc37 (by decide)
    refine lv_tableOut (pc := 33) (tgt := 1508) hx hb dL_law_33 (by omega) (by decide) ?_
    refine W.widen (k := 200 + 4 * k + 4) (n := 20000 + 483 * k + 483) (by omega) (by omega) ?_
    exact next σ τ H locs hR hW
end GLL
