/-! cases of the law -/
section GL
variable {p : Program} {l : Launch} {e : Env} {R : Room} {s : State} {m : MethodId} {args : Array Value} {below : List Frame} {meth : Method} {c : Code} {H : Heap} {locs : List Loc} {cells slots : Nat} {Q : State → Prop}
variable {cc : ByteArray} {nL : Nat} {own : String} {ret : Option FieldType} {D : va_G} {ac : Nat → ClassId} {z idx : Nat} {A : Nat → Prop} {S : SP} {pc : Nat} {ls : Array Slot} {st rest : List Value} {v : Option Value} {aK aV : Nat → Nat}
theorem law_plaits {RR : Mem → Mem → Prop} (hO : OP_plaits RR) (hT : ∀ σ τ, RR σ τ → 1 ≤ txn σ) (C : CX code 4 R_law ret D ac p m c s args meth (z, aK, aV) (fun q => z ≤ q)) {b L : Nat} {xs : Nat → Int32} (hX : va_X b L xs s s.heap) (hbl : b < s.heap.size) (hzb : s.heap.size = z) {σ τ : Mem} (hR : RR σ τ) (hW : LWd D ac z s σ τ H locs) {i : Int32} {n : Nat} (hi : i.toInt = (n : Int)) (hn : n + 6 < L) (hL : L ≤ 3584) (hl : lv_has ls 4 [(3, .int i), (2, .ref (z + 80 + 0)), (1, .ref (z + 0)), (0, .ref b)]) (hc : cells + 4 ≤ 600000) (hs : slots + 483 ≤ 7302250)
    (kk : ∀ (σ' τ' : Mem) (H' : Heap) (locs' : List Loc), RR σ' τ' → LWd D ac z s σ' τ' H' locs' → W p l e room_1 s m args below meth c H' locs' (cells + 4) (slots + 483) Q (F0 m 1508 ls [])) : W p l e room_1 s m args below meth c H locs cells slots Q (F0 m 572 ls []) := by
  have hx := C.1.1
  have hb := C.1.2.1
  have hbA : ¬ (fun q => z ≤ q) b := by show ¬ z ≤ b; omega
  obtain ⟨hW8, hW9, hsz, hS⟩ := hW
  obtain ⟨r, σ', τ', e8, e9, hRR, ek⟩ := hO σ τ (xs (n + 1)) (xs (n + 2)) hR
  have ht0 := hT σ τ hR
  have ht1 := hT σ' τ' hRR
  refine lv_aload_n (pc := 572) hx hb dL_law_572 rfl (lv_at hl 2 rfl) ?_
  refine lv_aload_n (pc := 573) hx hb dL_law_573 rfl (lv_at hl 3 rfl) ?_
  refine lv_iload_n (pc := 574) hx hb dL_law_574 rfl (lv_at hl 0 rfl) ?_
  refine lv_iconst (pc := 575) (v := 1) hx hb dL_law_575 (by decide) ?_
  refine lv_iadd (pc := 576) hx hb dL_law_576 ?_
  refine l_iald (pc := 577) (n := n + 1) C hX hbl hbA hS (add_toInt (d := 1) hi rfl (by omega)) (by omega) dL_law_577 ?_
  refine lv_aload_n (pc := 578) hx hb dL_law_578 rfl (lv_at hl 3 rfl) ?_
  refine lv_iload_n (pc := 579) hx hb dL_law_579 rfl (lv_at hl 0 rfl) ?_
  refine lv_iconst (pc := 580) (v := 2) hx hb dL_law_580 (by decide) ?_
  refine lv_iadd (pc := 581) hx hb dL_law_581 ?_
  refine l_iald (pc := 582) (n := n + 2) C hX hbl hbA hS (add_toInt (d := 2) hi rfl (by omega)) (by omega) dL_law_582 ?_
  refine l_virt (R := room_1) (pc := 583) (st2 := [.int r]) (rest := []) C hW8 hS (c_X8_plaits (K := 200) (by omega) e8) (fun q hq => hq.1) mw_L_58 (kin_0 kdc_0) (Ek_0 kdc_0) rfl ⟨by decide, by decide, by show cells ≤ 600000; omega, by show slots ≤ 7302250; omega⟩ rfl rfl rfl (Nat.le_of_ble_eq_true rfl) hl.1 dL_law_583 (fun H1 locs1 hW8 f1 z1 hS => ?_)
  have hW9 : WR D ac (z + 80) τ H1 := fun k hk => (hW9 k hk).kept (f1 _ (by have h : k < 22 := hk; show z + 80 + k < H.size; omega) (by have h : k < 22 := hk; rintro ⟨h1, h2⟩; simp only at h2; omega))
  have hsz1 : H1.size = z + (98 + 4 * txn σ') := by rw [z1, hsz]; unfold txn; rw [ek]
  refine lv_aload_n (pc := 586) hx hb dL_law_586 rfl (lv_at hl 1 rfl) ?_
  refine lv_aload_n (pc := 587) hx hb dL_law_587 rfl (lv_at hl 3 rfl) ?_
  refine lv_iload_n (pc := 588) hx hb dL_law_588 rfl (lv_at hl 0 rfl) ?_
  refine lv_iconst (pc := 589) (v := 1) hx hb dL_law_589 (by decide) ?_
  refine lv_iadd (pc := 590) hx hb dL_law_590 ?_
  refine l_iald (pc := 591) (n := n + 1) C hX hbl hbA hS (add_toInt (d := 1) hi rfl (by omega)) (by omega) dL_law_591 ?_
  refine lv_aload_n (pc := 592) hx hb dL_law_592 rfl (lv_at hl 3 rfl) ?_
  refine lv_iload_n (pc := 593) hx hb dL_law_593 rfl (lv_at hl 0 rfl) ?_
  refine lv_iconst (pc := 594) (v := 2) hx hb dL_law_594 (by decide) ?_
  refine lv_iadd (pc := 595) hx hb dL_law_595 ?_
  refine l_iald (pc := 596) (n := n + 2) C hX hbl hbA hS (add_toInt (d := 2) hi rfl (by omega)) (by omega) dL_law_596 ?_
  refine l_virt (R := room_1) (pc := 597) (st2 := [.int r, .int r]) (rest := [.int r]) C hW9 hS (c_X9_plaits (K := 200) (by omega) e9) (fun q hq => by have := hq.1; show z ≤ q; omega) mw_L_61 inR0 Er_0 rfl ⟨by decide, by decide, by show cells ≤ 600000; omega, by show slots ≤ 7302250; omega⟩ rfl rfl rfl (Nat.le_of_ble_eq_true rfl) hl.1 dL_law_597 (fun H2 locs2 hW9 f2 z2 hS => ?_)
  have hW8 : WC D ac z σ' H2 := fun k hk => (hW8 k hk).kept (f2 _ (by have h := hk.2; rw [hsz1]; have := ht1; omega) (by have h := inC_ge hk; rintro ⟨h1, h2⟩; omega))
  refine lv_icmp_eq (pc := 600) (tgt := 1508) hx hb dL_law_600 (by decide) (fun _ => ?_) (fun hc => absurd rfl hc)
  refine W.widen (k := cells + 4) (n := slots + 483) (by omega) (by omega) ?_
  exact kk _ _ _ _ hRR ⟨hW8, hW9, z2.trans hsz1, hS⟩
theorem law_pass {RR : Mem → Mem → Prop} (hO : OP_pass RR) (hT : ∀ σ τ, RR σ τ → 1 ≤ txn σ) (C : CX code 4 R_law ret D ac p m c s args meth (z, aK, aV) (fun q => z ≤ q)) {b L : Nat} {xs : Nat → Int32} (hX : va_X b L xs s s.heap) (hbl : b < s.heap.size) (hzb : s.heap.size = z) {σ τ : Mem} (hR : RR σ τ) (hW : LWd D ac z s σ τ H locs) {i : Int32} {n : Nat} (hi : i.toInt = (n : Int)) (hn : n + 6 < L) (hL : L ≤ 3584) (hl : lv_has ls 4 [(3, .int i), (2, .ref (z + 80 + 0)), (1, .ref (z + 0)), (0, .ref b)]) (hc : cells + 4 ≤ 600000) (hs : slots + 483 ≤ 7302250)
    (kk : ∀ (σ' τ' : Mem) (H' : Heap) (locs' : List Loc), RR σ' τ' → LWd D ac z s σ' τ' H' locs' → W p l e room_1 s m args below meth c H' locs' (cells + 4) (slots + 483) Q (F0 m 1508 ls [])) : W p l e room_1 s m args below meth c H locs cells slots Q (F0 m 605 ls []) := by
  have hx := C.1.1
  have hb := C.1.2.1
  have hbA : ¬ (fun q => z ≤ q) b := by show ¬ z ≤ b; omega
  obtain ⟨hW8, hW9, hsz, hS⟩ := hW
  obtain ⟨r, σ', τ', e8, e9, hRR, ek⟩ := hO σ τ (xs (n + 1)) (xs (n + 2)) hR
  have ht0 := hT σ τ hR
  have ht1 := hT σ' τ' hRR
  refine lv_aload_n (pc := 605) hx hb dL_law_605 rfl (lv_at hl 2 rfl) ?_
  refine lv_aload_n (pc := 606) hx hb dL_law_606 rfl (lv_at hl 3 rfl) ?_
  refine lv_iload_n (pc := 607) hx hb dL_law_607 rfl (lv_at hl 0 rfl) ?_
  refine lv_iconst (pc := 608) (v := 1) hx hb dL_law_608 (by decide) ?_
  refine lv_iadd (pc := 609) hx hb dL_law_609 ?_
  refine l_iald (pc := 610) (n := n + 1) C hX hbl hbA hS (add_toInt (d := 1) hi rfl (by omega)) (by omega) dL_law_610 ?_
  refine lv_aload_n (pc := 611) hx hb dL_law_611 rfl (lv_at hl 3 rfl) ?_
  refine lv_iload_n (pc := 612) hx hb dL_law_612 rfl (lv_at hl 0 rfl) ?_
  refine lv_iconst (pc := 613) (v := 2) hx hb dL_law_613 (by decide) ?_
  refine lv_iadd (pc := 614) hx hb dL_law_614 ?_
  refine l_iald (pc := 615) (n := n + 2) C hX hbl hbA hS (add_toInt (d := 2) hi rfl (by omega)) (by omega) dL_law_615 ?_
  refine l_virt (R := room_1) (pc := 616) (st2 := [.int r]) (rest := []) C hW8 hS (c_X8_pass (K := 200) (by omega) e8) (fun q hq => hq.1) mw_L_62 (kin_0 kdc_0) (Ek_0 kdc_0) rfl ⟨by decide, by decide, by show cells ≤ 600000; omega, by show slots ≤ 7302250; omega⟩ rfl rfl rfl (Nat.le_of_ble_eq_true rfl) hl.1 dL_law_616 (fun H1 locs1 hW8 f1 z1 hS => ?_)
  have hW9 : WR D ac (z + 80) τ H1 := fun k hk => (hW9 k hk).kept (f1 _ (by have h : k < 22 := hk; show z + 80 + k < H.size; omega) (by have h : k < 22 := hk; rintro ⟨h1, h2⟩; simp only at h2; omega))
  have hsz1 : H1.size = z + (98 + 4 * txn σ') := by rw [z1, hsz]; unfold txn; rw [ek]
  refine lv_aload_n (pc := 619) hx hb dL_law_619 rfl (lv_at hl 1 rfl) ?_
  refine lv_aload_n (pc := 620) hx hb dL_law_620 rfl (lv_at hl 3 rfl) ?_
  refine lv_iload_n (pc := 621) hx hb dL_law_621 rfl (lv_at hl 0 rfl) ?_
  refine lv_iconst (pc := 622) (v := 1) hx hb dL_law_622 (by decide) ?_
  refine lv_iadd (pc := 623) hx hb dL_law_623 ?_
  refine l_iald (pc := 624) (n := n + 1) C hX hbl hbA hS (add_toInt (d := 1) hi rfl (by omega)) (by omega) dL_law_624 ?_
  refine lv_aload_n (pc := 625) hx hb dL_law_625 rfl (lv_at hl 3 rfl) ?_
  refine lv_iload_n (pc := 626) hx hb dL_law_626 rfl (lv_at hl 0 rfl) ?_
  refine lv_iconst (pc := 627) (v := 2) hx hb dL_law_627 (by decide) ?_
  refine lv_iadd (pc := 628) hx hb dL_law_628 ?_
  refine l_iald (pc := 629) (n := n + 2) C hX hbl hbA hS (add_toInt (d := 2) hi rfl (by omega)) (by omega) dL_law_629 ?_
  refine l_virt (R := room_1) (pc := 630) (st2 := [.int r, .int r]) (rest := [.int r]) C hW9 hS (c_X9_pass (K := 200) (by omega) e9) (fun q hq => by have := hq.1; show z ≤ q; omega) mw_L_65 inR0 Er_0 rfl ⟨by decide, by decide, by show cells ≤ 600000; omega, by show slots ≤ 7302250; omega⟩ rfl rfl rfl (Nat.le_of_ble_eq_true rfl) hl.1 dL_law_630 (fun H2 locs2 hW9 f2 z2 hS => ?_)
  have hW8 : WC D ac z σ' H2 := fun k hk => (hW8 k hk).kept (f2 _ (by have h := hk.2; rw [hsz1]; have := ht1; omega) (by have h := inC_ge hk; rintro ⟨h1, h2⟩; omega))
  refine lv_icmp_eq (pc := 633) (tgt := 1508) hx hb dL_law_633 (by decide) (fun _ => ?_) (fun hc => absurd rfl hc)
  refine W.widen (k := cells + 4) (n := slots + 483) (by omega) (by omega) ?_
  exact kk _ _ _ _ hRR ⟨hW8, hW9, z2.trans hsz1, hS⟩
theorem law_live {RR : Mem → Mem → Prop} (hO : OP_live RR) (hT : ∀ σ τ, RR σ τ → 1 ≤ txn σ) (C : CX code 4 R_law ret D ac p m c s args meth (z, aK, aV) (fun q => z ≤ q)) {b L : Nat} {xs : Nat → Int32} (hX : va_X b L xs s s.heap) (hbl : b < s.heap.size) (hzb : s.heap.size = z) {σ τ : Mem} (hR : RR σ τ) (hW : LWd D ac z s σ τ H locs) {i : Int32} {n : Nat} (hi : i.toInt = (n : Int)) (hn : n + 6 < L) (hL : L ≤ 3584) (hl : lv_has ls 4 [(3, .int i), (2, .ref (z + 80 + 0)), (1, .ref (z + 0)), (0, .ref b)]) (hc : cells + 4 ≤ 600000) (hs : slots + 483 ≤ 7302250)
    (kk : ∀ (σ' τ' : Mem) (H' : Heap) (locs' : List Loc), RR σ' τ' → LWd D ac z s σ' τ' H' locs' → W p l e room_1 s m args below meth c H' locs' (cells + 4) (slots + 483) Q (F0 m 1508 ls [])) : W p l e room_1 s m args below meth c H locs cells slots Q (F0 m 638 ls []) := by
  have hx := C.1.1
  have hb := C.1.2.1
  have hbA : ¬ (fun q => z ≤ q) b := by show ¬ z ≤ b; omega
  obtain ⟨hW8, hW9, hsz, hS⟩ := hW
  obtain ⟨r, σ', τ', e8, e9, hRR, ek⟩ := hO σ τ hR
  have ht0 := hT σ τ hR
  have ht1 := hT σ' τ' hRR
  refine lv_aload_n (pc := 638) hx hb dL_law_638 rfl (lv_at hl 2 rfl) ?_
  refine l_virt (R := room_1) (pc := 639) (st2 := [.int r]) (rest := []) C hW8 hS (c_X8_live (K := 200) (by omega) e8) (fun q hq => hq.1) mw_L_66 (kin_0 kdc_0) (Ek_0 kdc_0) rfl ⟨by decide, by decide, by show cells ≤ 600000; omega, by show slots ≤ 7302250; omega⟩ rfl rfl rfl (Nat.le_of_ble_eq_true rfl) hl.1 dL_law_639 (fun H1 locs1 hW8 f1 z1 hS => ?_)
  have hW9 : WR D ac (z + 80) τ H1 := fun k hk => (hW9 k hk).kept (f1 _ (by have h : k < 22 := hk; show z + 80 + k < H.size; omega) (by have h : k < 22 := hk; rintro ⟨h1, h2⟩; simp only at h2; omega))
  have hsz1 : H1.size = z + (98 + 4 * txn σ') := by rw [z1, hsz]; unfold txn; rw [ek]
  refine lv_aload_n (pc := 642) hx hb dL_law_642 rfl (lv_at hl 1 rfl) ?_
  refine l_virt (R := room_1) (pc := 643) (st2 := [.int r, .int r]) (rest := [.int r]) C hW9 hS (c_X9_live (K := 200) (by omega) e9) (fun q hq => by have := hq.1; show z ≤ q; omega) mw_L_69 inR0 Er_0 rfl ⟨by decide, by decide, by show cells ≤ 600000; omega, by show slots ≤ 7302250; omega⟩ rfl rfl rfl (Nat.le_of_ble_eq_true rfl) hl.1 dL_law_643 (fun H2 locs2 hW9 f2 z2 hS => ?_)
  have hW8 : WC D ac z σ' H2 := fun k hk => (hW8 k hk).kept (f2 _ (by have h := hk.2; rw [hsz1]; have := ht1; omega) (by have h := inC_ge hk; rintro ⟨h1, h2⟩; omega))
  refine lv_icmp_eq (pc := 646) (tgt := 1508) hx hb dL_law_646 (by decide) (fun _ => ?_) (fun hc => absurd rfl hc)
  refine W.widen (k := cells + 4) (n := slots + 483) (by omega) (by omega) ?_
  exact kk _ _ _ _ hRR ⟨hW8, hW9, z2.trans hsz1, hS⟩
theorem law_run {RR : Mem → Mem → Prop} (hO : OP_run RR) (hT : ∀ σ τ, RR σ τ → 1 ≤ txn σ) (C : CX code 4 R_law ret D ac p m c s args meth (z, aK, aV) (fun q => z ≤ q)) {b L : Nat} {xs : Nat → Int32} (hX : va_X b L xs s s.heap) (hbl : b < s.heap.size) (hzb : s.heap.size = z) {σ τ : Mem} (hR : RR σ τ) (hW : LWd D ac z s σ τ H locs) {i : Int32} {n : Nat} (hi : i.toInt = (n : Int)) (hn : n + 6 < L) (hL : L ≤ 3584) (hl : lv_has ls 4 [(3, .int i), (2, .ref (z + 80 + 0)), (1, .ref (z + 0)), (0, .ref b)]) (hc : cells + 4 ≤ 600000) (hs : slots + 483 ≤ 7302250)
    (kk : ∀ (σ' τ' : Mem) (H' : Heap) (locs' : List Loc), RR σ' τ' → LWd D ac z s σ' τ' H' locs' → W p l e room_1 s m args below meth c H' locs' (cells + 4) (slots + 483) Q (F0 m 1508 ls [])) : W p l e room_1 s m args below meth c H locs cells slots Q (F0 m 651 ls []) := by
  have hx := C.1.1
  have hb := C.1.2.1
  have hbA : ¬ (fun q => z ≤ q) b := by show ¬ z ≤ b; omega
  obtain ⟨hW8, hW9, hsz, hS⟩ := hW
  obtain ⟨r, σ', τ', e8, e9, hRR, ek⟩ := hO σ τ (xs (n + 1)) (xs (n + 2)) hR
  have ht0 := hT σ τ hR
  have ht1 := hT σ' τ' hRR
  refine lv_aload_n (pc := 651) hx hb dL_law_651 rfl (lv_at hl 2 rfl) ?_
  refine lv_aload_n (pc := 652) hx hb dL_law_652 rfl (lv_at hl 3 rfl) ?_
  refine lv_iload_n (pc := 653) hx hb dL_law_653 rfl (lv_at hl 0 rfl) ?_
  refine lv_iconst (pc := 654) (v := 1) hx hb dL_law_654 (by decide) ?_
  refine lv_iadd (pc := 655) hx hb dL_law_655 ?_
  refine l_iald (pc := 656) (n := n + 1) C hX hbl hbA hS (add_toInt (d := 1) hi rfl (by omega)) (by omega) dL_law_656 ?_
  refine lv_aload_n (pc := 657) hx hb dL_law_657 rfl (lv_at hl 3 rfl) ?_
  refine lv_iload_n (pc := 658) hx hb dL_law_658 rfl (lv_at hl 0 rfl) ?_
  refine lv_iconst (pc := 659) (v := 2) hx hb dL_law_659 (by decide) ?_
  refine lv_iadd (pc := 660) hx hb dL_law_660 ?_
  refine l_iald (pc := 661) (n := n + 2) C hX hbl hbA hS (add_toInt (d := 2) hi rfl (by omega)) (by omega) dL_law_661 ?_
  refine l_virt (R := room_1) (pc := 662) (st2 := [.int r]) (rest := []) C hW8 hS (c_X8_run (K := 200) (by omega) e8) (fun q hq => hq.1) mw_L_70 (kin_0 kdc_0) (Ek_0 kdc_0) rfl ⟨by decide, by decide, by show cells ≤ 600000; omega, by show slots ≤ 7302250; omega⟩ rfl rfl rfl (Nat.le_of_ble_eq_true rfl) hl.1 dL_law_662 (fun H1 locs1 hW8 f1 z1 hS => ?_)
  have hW9 : WR D ac (z + 80) τ H1 := fun k hk => (hW9 k hk).kept (f1 _ (by have h : k < 22 := hk; show z + 80 + k < H.size; omega) (by have h : k < 22 := hk; rintro ⟨h1, h2⟩; simp only at h2; omega))
  have hsz1 : H1.size = z + (98 + 4 * txn σ') := by rw [z1, hsz]; unfold txn; rw [ek]
  refine lv_aload_n (pc := 665) hx hb dL_law_665 rfl (lv_at hl 1 rfl) ?_
  refine lv_aload_n (pc := 666) hx hb dL_law_666 rfl (lv_at hl 3 rfl) ?_
  refine lv_iload_n (pc := 667) hx hb dL_law_667 rfl (lv_at hl 0 rfl) ?_
  refine lv_iconst (pc := 668) (v := 1) hx hb dL_law_668 (by decide) ?_
  refine lv_iadd (pc := 669) hx hb dL_law_669 ?_
  refine l_iald (pc := 670) (n := n + 1) C hX hbl hbA hS (add_toInt (d := 1) hi rfl (by omega)) (by omega) dL_law_670 ?_
  refine lv_aload_n (pc := 671) hx hb dL_law_671 rfl (lv_at hl 3 rfl) ?_
  refine lv_iload_n (pc := 672) hx hb dL_law_672 rfl (lv_at hl 0 rfl) ?_
  refine lv_iconst (pc := 673) (v := 2) hx hb dL_law_673 (by decide) ?_
  refine lv_iadd (pc := 674) hx hb dL_law_674 ?_
  refine l_iald (pc := 675) (n := n + 2) C hX hbl hbA hS (add_toInt (d := 2) hi rfl (by omega)) (by omega) dL_law_675 ?_
  refine l_virt (R := room_1) (pc := 676) (st2 := [.int r, .int r]) (rest := [.int r]) C hW9 hS (c_X9_run (K := 200) (by omega) e9) (fun q hq => by have := hq.1; show z ≤ q; omega) mw_L_73 inR0 Er_0 rfl ⟨by decide, by decide, by show cells ≤ 600000; omega, by show slots ≤ 7302250; omega⟩ rfl rfl rfl (Nat.le_of_ble_eq_true rfl) hl.1 dL_law_676 (fun H2 locs2 hW9 f2 z2 hS => ?_)
  have hW8 : WC D ac z σ' H2 := fun k hk => (hW8 k hk).kept (f2 _ (by have h := hk.2; rw [hsz1]; have := ht1; omega) (by have h := inC_ge hk; rintro ⟨h1, h2⟩; omega))
  refine lv_icmp_eq (pc := 679) (tgt := 1508) hx hb dL_law_679 (by decide) (fun _ => ?_) (fun hc => absurd rfl hc)
  refine W.widen (k := cells + 4) (n := slots + 483) (by omega) (by omega) ?_
  exact kk _ _ _ _ hRR ⟨hW8, hW9, z2.trans hsz1, hS⟩
theorem law_ripe {RR : Mem → Mem → Prop} (hO : OP_ripe RR) (hT : ∀ σ τ, RR σ τ → 1 ≤ txn σ) (C : CX code 4 R_law ret D ac p m c s args meth (z, aK, aV) (fun q => z ≤ q)) {b L : Nat} {xs : Nat → Int32} (hX : va_X b L xs s s.heap) (hbl : b < s.heap.size) (hzb : s.heap.size = z) {σ τ : Mem} (hR : RR σ τ) (hW : LWd D ac z s σ τ H locs) {i : Int32} {n : Nat} (hi : i.toInt = (n : Int)) (hn : n + 6 < L) (hL : L ≤ 3584) (hl : lv_has ls 4 [(3, .int i), (2, .ref (z + 80 + 0)), (1, .ref (z + 0)), (0, .ref b)]) (hc : cells + 4 ≤ 600000) (hs : slots + 483 ≤ 7302250)
    (kk : ∀ (σ' τ' : Mem) (H' : Heap) (locs' : List Loc), RR σ' τ' → LWd D ac z s σ' τ' H' locs' → W p l e room_1 s m args below meth c H' locs' (cells + 4) (slots + 483) Q (F0 m 1508 ls [])) : W p l e room_1 s m args below meth c H locs cells slots Q (F0 m 684 ls []) := by
  have hx := C.1.1
  have hb := C.1.2.1
  have hbA : ¬ (fun q => z ≤ q) b := by show ¬ z ≤ b; omega
  obtain ⟨hW8, hW9, hsz, hS⟩ := hW
  obtain ⟨r, σ', τ', e8, e9, hRR, ek⟩ := hO σ τ (xs (n + 1)) (xs (n + 2)) hR
  have ht0 := hT σ τ hR
  have ht1 := hT σ' τ' hRR
  refine lv_aload_n (pc := 684) hx hb dL_law_684 rfl (lv_at hl 2 rfl) ?_
  refine lv_aload_n (pc := 685) hx hb dL_law_685 rfl (lv_at hl 3 rfl) ?_
  refine lv_iload_n (pc := 686) hx hb dL_law_686 rfl (lv_at hl 0 rfl) ?_
  refine lv_iconst (pc := 687) (v := 1) hx hb dL_law_687 (by decide) ?_
  refine lv_iadd (pc := 688) hx hb dL_law_688 ?_
  refine l_iald (pc := 689) (n := n + 1) C hX hbl hbA hS (add_toInt (d := 1) hi rfl (by omega)) (by omega) dL_law_689 ?_
  refine lv_aload_n (pc := 690) hx hb dL_law_690 rfl (lv_at hl 3 rfl) ?_
  refine lv_iload_n (pc := 691) hx hb dL_law_691 rfl (lv_at hl 0 rfl) ?_
  refine lv_iconst (pc := 692) (v := 2) hx hb dL_law_692 (by decide) ?_
  refine lv_iadd (pc := 693) hx hb dL_law_693 ?_
  refine l_iald (pc := 694) (n := n + 2) C hX hbl hbA hS (add_toInt (d := 2) hi rfl (by omega)) (by omega) dL_law_694 ?_
  refine l_virt (R := room_1) (pc := 695) (st2 := [.int r]) (rest := []) C hW8 hS (c_X8_ripe (K := 200) (by omega) e8) (fun q hq => hq.1) mw_L_74 (kin_0 kdc_0) (Ek_0 kdc_0) rfl ⟨by decide, by decide, by show cells ≤ 600000; omega, by show slots ≤ 7302250; omega⟩ rfl rfl rfl (Nat.le_of_ble_eq_true rfl) hl.1 dL_law_695 (fun H1 locs1 hW8 f1 z1 hS => ?_)
  have hW9 : WR D ac (z + 80) τ H1 := fun k hk => (hW9 k hk).kept (f1 _ (by have h : k < 22 := hk; show z + 80 + k < H.size; omega) (by have h : k < 22 := hk; rintro ⟨h1, h2⟩; simp only at h2; omega))
  have hsz1 : H1.size = z + (98 + 4 * txn σ') := by rw [z1, hsz]; unfold txn; rw [ek]
  refine lv_aload_n (pc := 698) hx hb dL_law_698 rfl (lv_at hl 1 rfl) ?_
  refine lv_aload_n (pc := 699) hx hb dL_law_699 rfl (lv_at hl 3 rfl) ?_
  refine lv_iload_n (pc := 700) hx hb dL_law_700 rfl (lv_at hl 0 rfl) ?_
  refine lv_iconst (pc := 701) (v := 1) hx hb dL_law_701 (by decide) ?_
  refine lv_iadd (pc := 702) hx hb dL_law_702 ?_
  refine l_iald (pc := 703) (n := n + 1) C hX hbl hbA hS (add_toInt (d := 1) hi rfl (by omega)) (by omega) dL_law_703 ?_
  refine lv_aload_n (pc := 704) hx hb dL_law_704 rfl (lv_at hl 3 rfl) ?_
  refine lv_iload_n (pc := 705) hx hb dL_law_705 rfl (lv_at hl 0 rfl) ?_
  refine lv_iconst (pc := 706) (v := 2) hx hb dL_law_706 (by decide) ?_
  refine lv_iadd (pc := 707) hx hb dL_law_707 ?_
  refine l_iald (pc := 708) (n := n + 2) C hX hbl hbA hS (add_toInt (d := 2) hi rfl (by omega)) (by omega) dL_law_708 ?_
  refine l_virt (R := room_1) (pc := 709) (st2 := [.int r, .int r]) (rest := [.int r]) C hW9 hS (c_X9_ripe (K := 200) (by omega) e9) (fun q hq => by have := hq.1; show z ≤ q; omega) mw_L_77 inR0 Er_0 rfl ⟨by decide, by decide, by show cells ≤ 600000; omega, by show slots ≤ 7302250; omega⟩ rfl rfl rfl (Nat.le_of_ble_eq_true rfl) hl.1 dL_law_709 (fun H2 locs2 hW9 f2 z2 hS => ?_)
  have hW8 : WC D ac z σ' H2 := fun k hk => (hW8 k hk).kept (f2 _ (by have h := hk.2; rw [hsz1]; have := ht1; omega) (by have h := inC_ge hk; rintro ⟨h1, h2⟩; omega))
  refine lv_icmp_eq (pc := 712) (tgt := 1508) hx hb dL_law_712 (by decide) (fun _ => ?_) (fun hc => absurd rfl hc)
  refine W.widen (k := cells + 4) (n := slots + 483) (by omega) (by omega) ?_
  exact kk _ _ _ _ hRR ⟨hW8, hW9, z2.trans hsz1, hS⟩
theorem law_soonest {RR : Mem → Mem → Prop} (hO : OP_soonest RR) (hT : ∀ σ τ, RR σ τ → 1 ≤ txn σ) (C : CX code 4 R_law ret D ac p m c s args meth (z, aK, aV) (fun q => z ≤ q)) {b L : Nat} {xs : Nat → Int32} (hX : va_X b L xs s s.heap) (hbl : b < s.heap.size) (hzb : s.heap.size = z) {σ τ : Mem} (hR : RR σ τ) (hW : LWd D ac z s σ τ H locs) {i : Int32} {n : Nat} (hi : i.toInt = (n : Int)) (hn : n + 6 < L) (hL : L ≤ 3584) (hl : lv_has ls 4 [(3, .int i), (2, .ref (z + 80 + 0)), (1, .ref (z + 0)), (0, .ref b)]) (hc : cells + 4 ≤ 600000) (hs : slots + 483 ≤ 7302250)
    (kk : ∀ (σ' τ' : Mem) (H' : Heap) (locs' : List Loc), RR σ' τ' → LWd D ac z s σ' τ' H' locs' → W p l e room_1 s m args below meth c H' locs' (cells + 4) (slots + 483) Q (F0 m 1508 ls [])) : W p l e room_1 s m args below meth c H locs cells slots Q (F0 m 717 ls []) := by
  have hx := C.1.1
  have hb := C.1.2.1
  have hbA : ¬ (fun q => z ≤ q) b := by show ¬ z ≤ b; omega
  obtain ⟨hW8, hW9, hsz, hS⟩ := hW
  obtain ⟨r, σ', τ', e8, e9, hRR, ek⟩ := hO σ τ (xs (n + 1)) (xs (n + 2)) hR
  have ht0 := hT σ τ hR
  have ht1 := hT σ' τ' hRR
  refine lv_aload_n (pc := 717) hx hb dL_law_717 rfl (lv_at hl 2 rfl) ?_
  refine lv_aload_n (pc := 718) hx hb dL_law_718 rfl (lv_at hl 3 rfl) ?_
  refine lv_iload_n (pc := 719) hx hb dL_law_719 rfl (lv_at hl 0 rfl) ?_
  refine lv_iconst (pc := 720) (v := 1) hx hb dL_law_720 (by decide) ?_
  refine lv_iadd (pc := 721) hx hb dL_law_721 ?_
  refine l_iald (pc := 722) (n := n + 1) C hX hbl hbA hS (add_toInt (d := 1) hi rfl (by omega)) (by omega) dL_law_722 ?_
  refine lv_aload_n (pc := 723) hx hb dL_law_723 rfl (lv_at hl 3 rfl) ?_
  refine lv_iload_n (pc := 724) hx hb dL_law_724 rfl (lv_at hl 0 rfl) ?_
  refine lv_iconst (pc := 725) (v := 2) hx hb dL_law_725 (by decide) ?_
  refine lv_iadd (pc := 726) hx hb dL_law_726 ?_
  refine l_iald (pc := 727) (n := n + 2) C hX hbl hbA hS (add_toInt (d := 2) hi rfl (by omega)) (by omega) dL_law_727 ?_
  refine l_virt (R := room_1) (pc := 728) (st2 := [.int r]) (rest := []) C hW8 hS (c_X8_soonest (K := 200) (by omega) e8) (fun q hq => hq.1) mw_L_78 (kin_0 kdc_0) (Ek_0 kdc_0) rfl ⟨by decide, by decide, by show cells ≤ 600000; omega, by show slots ≤ 7302250; omega⟩ rfl rfl rfl (Nat.le_of_ble_eq_true rfl) hl.1 dL_law_728 (fun H1 locs1 hW8 f1 z1 hS => ?_)
  have hW9 : WR D ac (z + 80) τ H1 := fun k hk => (hW9 k hk).kept (f1 _ (by have h : k < 22 := hk; show z + 80 + k < H.size; omega) (by have h : k < 22 := hk; rintro ⟨h1, h2⟩; simp only at h2; omega))
  have hsz1 : H1.size = z + (98 + 4 * txn σ') := by rw [z1, hsz]; unfold txn; rw [ek]
  refine lv_aload_n (pc := 731) hx hb dL_law_731 rfl (lv_at hl 1 rfl) ?_
  refine lv_aload_n (pc := 732) hx hb dL_law_732 rfl (lv_at hl 3 rfl) ?_
  refine lv_iload_n (pc := 733) hx hb dL_law_733 rfl (lv_at hl 0 rfl) ?_
  refine lv_iconst (pc := 734) (v := 1) hx hb dL_law_734 (by decide) ?_
  refine lv_iadd (pc := 735) hx hb dL_law_735 ?_
  refine l_iald (pc := 736) (n := n + 1) C hX hbl hbA hS (add_toInt (d := 1) hi rfl (by omega)) (by omega) dL_law_736 ?_
  refine lv_aload_n (pc := 737) hx hb dL_law_737 rfl (lv_at hl 3 rfl) ?_
  refine lv_iload_n (pc := 738) hx hb dL_law_738 rfl (lv_at hl 0 rfl) ?_
  refine lv_iconst (pc := 739) (v := 2) hx hb dL_law_739 (by decide) ?_
  refine lv_iadd (pc := 740) hx hb dL_law_740 ?_
  refine l_iald (pc := 741) (n := n + 2) C hX hbl hbA hS (add_toInt (d := 2) hi rfl (by omega)) (by omega) dL_law_741 ?_
  refine l_virt (R := room_1) (pc := 742) (st2 := [.int r, .int r]) (rest := [.int r]) C hW9 hS (c_X9_soonest (K := 200) (by omega) e9) (fun q hq => by have := hq.1; show z ≤ q; omega) mw_L_81 inR0 Er_0 rfl ⟨by decide, by decide, by show cells ≤ 600000; omega, by show slots ≤ 7302250; omega⟩ rfl rfl rfl (Nat.le_of_ble_eq_true rfl) hl.1 dL_law_742 (fun H2 locs2 hW9 f2 z2 hS => ?_)
  have hW8 : WC D ac z σ' H2 := fun k hk => (hW8 k hk).kept (f2 _ (by have h := hk.2; rw [hsz1]; have := ht1; omega) (by have h := inC_ge hk; rintro ⟨h1, h2⟩; omega))
  refine lv_icmp_eq (pc := 745) (tgt := 1508) hx hb dL_law_745 (by decide) (fun _ => ?_) (fun hc => absurd rfl hc)
  refine W.widen (k := cells + 4) (n := slots + 483) (by omega) (by omega) ?_
  exact kk _ _ _ _ hRR ⟨hW8, hW9, z2.trans hsz1, hS⟩
theorem law_take {RR : Mem → Mem → Prop} (hO : OP_take RR) (hT : ∀ σ τ, RR σ τ → 1 ≤ txn σ) (C : CX code 4 R_law ret D ac p m c s args meth (z, aK, aV) (fun q => z ≤ q)) {b L : Nat} {xs : Nat → Int32} (hX : va_X b L xs s s.heap) (hbl : b < s.heap.size) (hzb : s.heap.size = z) {σ τ : Mem} (hR : RR σ τ) (hW : LWd D ac z s σ τ H locs) {i : Int32} {n : Nat} (hi : i.toInt = (n : Int)) (hn : n + 6 < L) (hL : L ≤ 3584) (hl : lv_has ls 4 [(3, .int i), (2, .ref (z + 80 + 0)), (1, .ref (z + 0)), (0, .ref b)]) (hc : cells + 4 ≤ 600000) (hs : slots + 483 ≤ 7302250)
    (kk : ∀ (σ' τ' : Mem) (H' : Heap) (locs' : List Loc), RR σ' τ' → LWd D ac z s σ' τ' H' locs' → W p l e room_1 s m args below meth c H' locs' (cells + 4) (slots + 483) Q (F0 m 1508 ls [])) : W p l e room_1 s m args below meth c H locs cells slots Q (F0 m 750 ls []) := by
  have hx := C.1.1
  have hb := C.1.2.1
  have hbA : ¬ (fun q => z ≤ q) b := by show ¬ z ≤ b; omega
  obtain ⟨hW8, hW9, hsz, hS⟩ := hW
  obtain ⟨r, σ', τ', e8, e9, hRR, ek⟩ := hO σ τ (xs (n + 1)) (xs (n + 2)) (xs (n + 3)) hR
  have ht0 := hT σ τ hR
  have ht1 := hT σ' τ' hRR
  refine lv_aload_n (pc := 750) hx hb dL_law_750 rfl (lv_at hl 2 rfl) ?_
  refine lv_aload_n (pc := 751) hx hb dL_law_751 rfl (lv_at hl 3 rfl) ?_
  refine lv_iload_n (pc := 752) hx hb dL_law_752 rfl (lv_at hl 0 rfl) ?_
  refine lv_iconst (pc := 753) (v := 1) hx hb dL_law_753 (by decide) ?_
  refine lv_iadd (pc := 754) hx hb dL_law_754 ?_
  refine l_iald (pc := 755) (n := n + 1) C hX hbl hbA hS (add_toInt (d := 1) hi rfl (by omega)) (by omega) dL_law_755 ?_
  refine lv_aload_n (pc := 756) hx hb dL_law_756 rfl (lv_at hl 3 rfl) ?_
  refine lv_iload_n (pc := 757) hx hb dL_law_757 rfl (lv_at hl 0 rfl) ?_
  refine lv_iconst (pc := 758) (v := 2) hx hb dL_law_758 (by decide) ?_
  refine lv_iadd (pc := 759) hx hb dL_law_759 ?_
  refine l_iald (pc := 760) (n := n + 2) C hX hbl hbA hS (add_toInt (d := 2) hi rfl (by omega)) (by omega) dL_law_760 ?_
  refine lv_aload_n (pc := 761) hx hb dL_law_761 rfl (lv_at hl 3 rfl) ?_
  refine lv_iload_n (pc := 762) hx hb dL_law_762 rfl (lv_at hl 0 rfl) ?_
  refine lv_iconst (pc := 763) (v := 3) hx hb dL_law_763 (by decide) ?_
  refine lv_iadd (pc := 764) hx hb dL_law_764 ?_
  refine l_iald (pc := 765) (n := n + 3) C hX hbl hbA hS (add_toInt (d := 3) hi rfl (by omega)) (by omega) dL_law_765 ?_
  refine l_virt (R := room_1) (pc := 766) (st2 := [.int r]) (rest := []) C hW8 hS (c_X8_take (K := 200) (by omega) e8) (fun q hq => hq.1) mw_L_82 (kin_0 kdc_0) (Ek_0 kdc_0) rfl ⟨by decide, by decide, by show cells ≤ 600000; omega, by show slots ≤ 7302250; omega⟩ rfl rfl rfl (Nat.le_of_ble_eq_true rfl) hl.1 dL_law_766 (fun H1 locs1 hW8 f1 z1 hS => ?_)
  have hW9 : WR D ac (z + 80) τ H1 := fun k hk => (hW9 k hk).kept (f1 _ (by have h : k < 22 := hk; show z + 80 + k < H.size; omega) (by have h : k < 22 := hk; rintro ⟨h1, h2⟩; simp only at h2; omega))
  have hsz1 : H1.size = z + (98 + 4 * txn σ') := by rw [z1, hsz]; unfold txn; rw [ek]
  refine lv_aload_n (pc := 769) hx hb dL_law_769 rfl (lv_at hl 1 rfl) ?_
  refine lv_aload_n (pc := 770) hx hb dL_law_770 rfl (lv_at hl 3 rfl) ?_
  refine lv_iload_n (pc := 771) hx hb dL_law_771 rfl (lv_at hl 0 rfl) ?_
  refine lv_iconst (pc := 772) (v := 1) hx hb dL_law_772 (by decide) ?_
  refine lv_iadd (pc := 773) hx hb dL_law_773 ?_
  refine l_iald (pc := 774) (n := n + 1) C hX hbl hbA hS (add_toInt (d := 1) hi rfl (by omega)) (by omega) dL_law_774 ?_
  refine lv_aload_n (pc := 775) hx hb dL_law_775 rfl (lv_at hl 3 rfl) ?_
  refine lv_iload_n (pc := 776) hx hb dL_law_776 rfl (lv_at hl 0 rfl) ?_
  refine lv_iconst (pc := 777) (v := 2) hx hb dL_law_777 (by decide) ?_
  refine lv_iadd (pc := 778) hx hb dL_law_778 ?_
  refine l_iald (pc := 779) (n := n + 2) C hX hbl hbA hS (add_toInt (d := 2) hi rfl (by omega)) (by omega) dL_law_779 ?_
  refine lv_aload_n (pc := 780) hx hb dL_law_780 rfl (lv_at hl 3 rfl) ?_
  refine lv_iload_n (pc := 781) hx hb dL_law_781 rfl (lv_at hl 0 rfl) ?_
  refine lv_iconst (pc := 782) (v := 3) hx hb dL_law_782 (by decide) ?_
  refine lv_iadd (pc := 783) hx hb dL_law_783 ?_
  refine l_iald (pc := 784) (n := n + 3) C hX hbl hbA hS (add_toInt (d := 3) hi rfl (by omega)) (by omega) dL_law_784 ?_
  refine l_virt (R := room_1) (pc := 785) (st2 := [.int r, .int r]) (rest := [.int r]) C hW9 hS (c_X9_take (K := 200) (by omega) e9) (fun q hq => by have := hq.1; show z ≤ q; omega) mw_L_85 inR0 Er_0 rfl ⟨by decide, by decide, by show cells ≤ 600000; omega, by show slots ≤ 7302250; omega⟩ rfl rfl rfl (Nat.le_of_ble_eq_true rfl) hl.1 dL_law_785 (fun H2 locs2 hW9 f2 z2 hS => ?_)
  have hW8 : WC D ac z σ' H2 := fun k hk => (hW8 k hk).kept (f2 _ (by have h := hk.2; rw [hsz1]; have := ht1; omega) (by have h := inC_ge hk; rintro ⟨h1, h2⟩; omega))
  refine lv_icmp_eq (pc := 788) (tgt := 1508) hx hb dL_law_788 (by decide) (fun _ => ?_) (fun hc => absurd rfl hc)
  refine W.widen (k := cells + 4) (n := slots + 483) (by omega) (by omega) ?_
  exact kk _ _ _ _ hRR ⟨hW8, hW9, z2.trans hsz1, hS⟩
theorem law_ring {RR : Mem → Mem → Prop} (hO : OP_ring RR) (hT : ∀ σ τ, RR σ τ → 1 ≤ txn σ) (C : CX code 4 R_law ret D ac p m c s args meth (z, aK, aV) (fun q => z ≤ q)) {b L : Nat} {xs : Nat → Int32} (hX : va_X b L xs s s.heap) (hbl : b < s.heap.size) (hzb : s.heap.size = z) {σ τ : Mem} (hR : RR σ τ) (hW : LWd D ac z s σ τ H locs) {i : Int32} {n : Nat} (hi : i.toInt = (n : Int)) (hn : n + 6 < L) (hL : L ≤ 3584) (hl : lv_has ls 4 [(3, .int i), (2, .ref (z + 80 + 0)), (1, .ref (z + 0)), (0, .ref b)]) (hc : cells + 4 ≤ 600000) (hs : slots + 483 ≤ 7302250)
    (kk : ∀ (σ' τ' : Mem) (H' : Heap) (locs' : List Loc), RR σ' τ' → LWd D ac z s σ' τ' H' locs' → W p l e room_1 s m args below meth c H' locs' (cells + 4) (slots + 483) Q (F0 m 1508 ls [])) : W p l e room_1 s m args below meth c H locs cells slots Q (F0 m 793 ls []) := by
  have hx := C.1.1
  have hb := C.1.2.1
  have hbA : ¬ (fun q => z ≤ q) b := by show ¬ z ≤ b; omega
  obtain ⟨hW8, hW9, hsz, hS⟩ := hW
  obtain ⟨r, τ', e8, e9, hRR⟩ := hO σ τ (xs (n + 1)) hR
  have ht0 := hT σ τ hR
  have ht1 := hT σ τ' hRR
  refine lv_aload_n (pc := 793) hx hb dL_law_793 rfl (lv_at hl 2 rfl) ?_
  refine lv_aload_n (pc := 794) hx hb dL_law_794 rfl (lv_at hl 3 rfl) ?_
  refine lv_iload_n (pc := 795) hx hb dL_law_795 rfl (lv_at hl 0 rfl) ?_
  refine lv_iconst (pc := 796) (v := 1) hx hb dL_law_796 (by decide) ?_
  refine lv_iadd (pc := 797) hx hb dL_law_797 ?_
  refine l_iald (pc := 798) (n := n + 1) C hX hbl hbA hS (add_toInt (d := 1) hi rfl (by omega)) (by omega) dL_law_798 ?_
  refine l_virt (R := room_1) (pc := 799) (st2 := [.int r]) (rest := []) C hW8 hS (c_X8_ring (K := 200) (by omega) e8) (fun q hq => hq.1) mw_L_86 (kin_0 kdc_0) (Ek_0 kdc_0) rfl ⟨by decide, by decide, by show cells ≤ 600000; omega, by show slots ≤ 7302250; omega⟩ rfl rfl rfl (Nat.le_of_ble_eq_true rfl) hl.1 dL_law_799 (fun H1 locs1 hW8 f1 z1 hS => ?_)
  have hW9 : WR D ac (z + 80) τ H1 := fun k hk => (hW9 k hk).kept (f1 _ (by have h : k < 22 := hk; show z + 80 + k < H.size; omega) (by have h : k < 22 := hk; rintro ⟨h1, h2⟩; simp only at h2; omega))
  have hsz1 : H1.size = z + (98 + 4 * txn σ) := by rw [z1, hsz]
  refine lv_aload_n (pc := 802) hx hb dL_law_802 rfl (lv_at hl 1 rfl) ?_
  refine lv_aload_n (pc := 803) hx hb dL_law_803 rfl (lv_at hl 3 rfl) ?_
  refine lv_iload_n (pc := 804) hx hb dL_law_804 rfl (lv_at hl 0 rfl) ?_
  refine lv_iconst (pc := 805) (v := 1) hx hb dL_law_805 (by decide) ?_
  refine lv_iadd (pc := 806) hx hb dL_law_806 ?_
  refine l_iald (pc := 807) (n := n + 1) C hX hbl hbA hS (add_toInt (d := 1) hi rfl (by omega)) (by omega) dL_law_807 ?_
  refine l_virt (R := room_1) (pc := 808) (st2 := [.int r, .int r]) (rest := [.int r]) C hW9 hS (c_X9_ring (K := 200) (by omega) e9) (fun q hq => by have := hq.1; show z ≤ q; omega) mw_L_89 inR0 Er_0 rfl ⟨by decide, by decide, by show cells ≤ 600000; omega, by show slots ≤ 7302250; omega⟩ rfl rfl rfl (Nat.le_of_ble_eq_true rfl) hl.1 dL_law_808 (fun H2 locs2 hW9 f2 z2 hS => ?_)
  have hW8 : WC D ac z σ H2 := fun k hk => (hW8 k hk).kept (f2 _ (by have h := hk.2; rw [hsz1]; have := ht1; omega) (by have h := inC_ge hk; rintro ⟨h1, h2⟩; omega))
  refine lv_icmp_eq (pc := 811) (tgt := 1508) hx hb dL_law_811 (by decide) (fun _ => ?_) (fun hc => absurd rfl hc)
  refine W.widen (k := cells + 4) (n := slots + 483) (by omega) (by omega) ?_
  exact kk _ _ _ _ hRR ⟨hW8, hW9, z2.trans hsz1, hS⟩
theorem law_clear {RR : Mem → Mem → Prop} (hO : OP_clear RR) (hT : ∀ σ τ, RR σ τ → 1 ≤ txn σ) (C : CX code 4 R_law ret D ac p m c s args meth (z, aK, aV) (fun q => z ≤ q)) {b L : Nat} {xs : Nat → Int32} (hX : va_X b L xs s s.heap) (hbl : b < s.heap.size) (hzb : s.heap.size = z) {σ τ : Mem} (hR : RR σ τ) (hW : LWd D ac z s σ τ H locs) {i : Int32} {n : Nat} (hi : i.toInt = (n : Int)) (hn : n + 6 < L) (hL : L ≤ 3584) (hl : lv_has ls 4 [(3, .int i), (2, .ref (z + 80 + 0)), (1, .ref (z + 0)), (0, .ref b)]) (hc : cells + 4 ≤ 600000) (hs : slots + 483 ≤ 7302250)
    (kk : ∀ (σ' τ' : Mem) (H' : Heap) (locs' : List Loc), RR σ' τ' → LWd D ac z s σ' τ' H' locs' → W p l e room_1 s m args below meth c H' locs' (cells + 4) (slots + 483) Q (F0 m 1508 ls [])) : W p l e room_1 s m args below meth c H locs cells slots Q (F0 m 816 ls []) := by
  have hx := C.1.1
  have hb := C.1.2.1
  have hbA : ¬ (fun q => z ≤ q) b := by show ¬ z ≤ b; omega
  obtain ⟨hW8, hW9, hsz, hS⟩ := hW
  obtain ⟨r, σ', τ', e8, e9, hRR, ek⟩ := hO σ τ hR
  have ht0 := hT σ τ hR
  have ht1 := hT σ' τ' hRR
  refine lv_aload_n (pc := 816) hx hb dL_law_816 rfl (lv_at hl 2 rfl) ?_
  refine l_virt (R := room_1) (pc := 817) (st2 := [.int r]) (rest := []) C hW8 hS (c_X8_clear (K := 200) (by omega) e8) (fun q hq => hq.1) mw_L_90 (kin_0 kdc_0) (Ek_0 kdc_0) rfl ⟨by decide, by decide, by show cells ≤ 600000; omega, by show slots ≤ 7302250; omega⟩ rfl rfl rfl (Nat.le_of_ble_eq_true rfl) hl.1 dL_law_817 (fun H1 locs1 hW8 f1 z1 hS => ?_)
  have hW9 : WR D ac (z + 80) τ H1 := fun k hk => (hW9 k hk).kept (f1 _ (by have h : k < 22 := hk; show z + 80 + k < H.size; omega) (by have h : k < 22 := hk; rintro ⟨h1, h2⟩; simp only at h2; omega))
  have hsz1 : H1.size = z + (98 + 4 * txn σ') := by rw [z1, hsz]; unfold txn; rw [ek]
  refine lv_aload_n (pc := 820) hx hb dL_law_820 rfl (lv_at hl 1 rfl) ?_
  refine l_virt (R := room_1) (pc := 821) (st2 := [.int r, .int r]) (rest := [.int r]) C hW9 hS (c_X9_clear (K := 200) (by omega) e9) (fun q hq => by have := hq.1; show z ≤ q; omega) mw_L_93 inR0 Er_0 rfl ⟨by decide, by decide, by show cells ≤ 600000; omega, by show slots ≤ 7302250; omega⟩ rfl rfl rfl (Nat.le_of_ble_eq_true rfl) hl.1 dL_law_821 (fun H2 locs2 hW9 f2 z2 hS => ?_)
  have hW8 : WC D ac z σ' H2 := fun k hk => (hW8 k hk).kept (f2 _ (by have h := hk.2; rw [hsz1]; have := ht1; omega) (by have h := inC_ge hk; rintro ⟨h1, h2⟩; omega))
  refine lv_icmp_eq (pc := 824) (tgt := 1508) hx hb dL_law_824 (by decide) (fun _ => ?_) (fun hc => absurd rfl hc)
  refine W.widen (k := cells + 4) (n := slots + 483) (by omega) (by omega) ?_
  exact kk _ _ _ _ hRR ⟨hW8, hW9, z2.trans hsz1, hS⟩
end GL
