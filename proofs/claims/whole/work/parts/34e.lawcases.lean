/-! cases of the law -/
section GL
variable {p : Program} {l : Launch} {e : Env} {R : Room} {s : State} {m : MethodId} {args : Array Value} {below : List Frame} {meth : Method} {c : Code} {H : Heap} {locs : List Loc} {cells slots : Nat} {Q : State → Prop}
variable {cc : ByteArray} {nL : Nat} {own : String} {ret : Option FieldType} {D : va_G} {ac : Nat → ClassId} {z idx : Nat} {A : Nat → Prop} {S : SP} {pc : Nat} {ls : Array Slot} {st rest : List Value} {v : Option Value} {aK aV : Nat → Nat}
theorem law_net {RR : Mem → Mem → Prop} (hO : OP_net RR) (hT : ∀ σ τ, RR σ τ → 1 ≤ txn σ) (C : CX code 4 R_law ret D ac p m c s args meth (z, aK, aV) (fun q => z ≤ q)) {b L : Nat} {xs : Nat → Int32} (hX : va_X b L xs s s.heap) (hbl : b < s.heap.size) (hzb : s.heap.size = z) {σ τ : Mem} (hR : RR σ τ) (hW : LWd D ac z s σ τ H locs) {i : Int32} {n : Nat} (hi : i.toInt = (n : Int)) (hn : n + 6 < L) (hL : L ≤ 3584) (hl : lv_has ls 4 [(3, .int i), (2, .ref (z + 80 + 0)), (1, .ref (z + 0)), (0, .ref b)]) (hc : cells + 4 ≤ 600000) (hs : slots + 483 ≤ 7302250)
    (kk : ∀ (σ' τ' : Mem) (H' : Heap) (locs' : List Loc), RR σ' τ' → LWd D ac z s σ' τ' H' locs' → W p l e room_1 s m args below meth c H' locs' (cells + 4) (slots + 483) Q (F0 m 1508 ls [])) : W p l e room_1 s m args below meth c H locs cells slots Q (F0 m 829 ls []) := by
  have hx := C.1.1
  have hb := C.1.2.1
  have hbA : ¬ (fun q => z ≤ q) b := by show ¬ z ≤ b; omega
  obtain ⟨hW8, hW9, hsz, hS⟩ := hW
  obtain ⟨r, e8, e9, hRR⟩ := hO σ τ (xs (n + 1)) hR
  have ht0 := hT σ τ hR
  have ht1 := hT σ τ hRR
  refine lv_aload_n (pc := 829) hx hb dL_law_829 rfl (lv_at hl 2 rfl) ?_
  refine lv_aload_n (pc := 830) hx hb dL_law_830 rfl (lv_at hl 3 rfl) ?_
  refine lv_iload_n (pc := 831) hx hb dL_law_831 rfl (lv_at hl 0 rfl) ?_
  refine lv_iconst (pc := 832) (v := 1) hx hb dL_law_832 (by decide) ?_
  refine lv_iadd (pc := 833) hx hb dL_law_833 ?_
  refine l_iald (pc := 834) (n := n + 1) C hX hbl hbA hS (add_toInt (d := 1) hi rfl (by omega)) (by omega) dL_law_834 ?_
  refine l_virt (R := room_1) (pc := 835) (st2 := [.int r]) (rest := []) C hW8 hS (c_X8_net (K := 200) (by omega) e8) (fun q hq => hq.1) mw_L_94 (kin_0 kdc_0) (Ek_0 kdc_0) rfl ⟨by decide, by decide, by show cells ≤ 600000; omega, by show slots ≤ 7302250; omega⟩ rfl rfl rfl (Nat.le_of_ble_eq_true rfl) hl.1 dL_law_835 (fun H1 locs1 hW8 f1 z1 hS => ?_)
  have hW9 : WR D ac (z + 80) τ H1 := fun k hk => (hW9 k hk).kept (f1 _ (by have h : k < 22 := hk; show z + 80 + k < H.size; omega) (by have h : k < 22 := hk; rintro ⟨h1, h2⟩; simp only at h2; omega))
  have hsz1 : H1.size = z + (98 + 4 * txn σ) := by rw [z1, hsz]
  refine lv_aload_n (pc := 838) hx hb dL_law_838 rfl (lv_at hl 1 rfl) ?_
  refine lv_aload_n (pc := 839) hx hb dL_law_839 rfl (lv_at hl 3 rfl) ?_
  refine lv_iload_n (pc := 840) hx hb dL_law_840 rfl (lv_at hl 0 rfl) ?_
  refine lv_iconst (pc := 841) (v := 1) hx hb dL_law_841 (by decide) ?_
  refine lv_iadd (pc := 842) hx hb dL_law_842 ?_
  refine l_iald (pc := 843) (n := n + 1) C hX hbl hbA hS (add_toInt (d := 1) hi rfl (by omega)) (by omega) dL_law_843 ?_
  refine l_virt (R := room_1) (pc := 844) (st2 := [.int r, .int r]) (rest := [.int r]) C hW9 hS (c_X9_net (K := 200) (by omega) e9) (fun q hq => by have := hq.1; show z ≤ q; omega) mw_L_97 inR0 Er_0 rfl ⟨by decide, by decide, by show cells ≤ 600000; omega, by show slots ≤ 7302250; omega⟩ rfl rfl rfl (Nat.le_of_ble_eq_true rfl) hl.1 dL_law_844 (fun H2 locs2 hW9 f2 z2 hS => ?_)
  have hW8 : WC D ac z σ H2 := fun k hk => (hW8 k hk).kept (f2 _ (by have h := hk.2; rw [hsz1]; have := ht1; omega) (by have h := inC_ge hk; rintro ⟨h1, h2⟩; omega))
  refine lv_icmp_eq (pc := 847) (tgt := 1508) hx hb dL_law_847 (by decide) (fun _ => ?_) (fun hc => absurd rfl hc)
  refine W.widen (k := cells + 4) (n := slots + 483) (by omega) (by omega) ?_
  exact kk _ _ _ _ hRR ⟨hW8, hW9, z2.trans hsz1, hS⟩
theorem law_falls {RR : Mem → Mem → Prop} (hO : OP_falls RR) (hT : ∀ σ τ, RR σ τ → 1 ≤ txn σ) (C : CX code 4 R_law ret D ac p m c s args meth (z, aK, aV) (fun q => z ≤ q)) {b L : Nat} {xs : Nat → Int32} (hX : va_X b L xs s s.heap) (hbl : b < s.heap.size) (hzb : s.heap.size = z) {σ τ : Mem} (hR : RR σ τ) (hW : LWd D ac z s σ τ H locs) {i : Int32} {n : Nat} (hi : i.toInt = (n : Int)) (hn : n + 6 < L) (hL : L ≤ 3584) (hl : lv_has ls 4 [(3, .int i), (2, .ref (z + 80 + 0)), (1, .ref (z + 0)), (0, .ref b)]) (hc : cells + 4 ≤ 600000) (hs : slots + 483 ≤ 7302250)
    (kk : ∀ (σ' τ' : Mem) (H' : Heap) (locs' : List Loc), RR σ' τ' → LWd D ac z s σ' τ' H' locs' → W p l e room_1 s m args below meth c H' locs' (cells + 4) (slots + 483) Q (F0 m 1508 ls [])) : W p l e room_1 s m args below meth c H locs cells slots Q (F0 m 852 ls []) := by
  have hx := C.1.1
  have hb := C.1.2.1
  have hbA : ¬ (fun q => z ≤ q) b := by show ¬ z ≤ b; omega
  obtain ⟨hW8, hW9, hsz, hS⟩ := hW
  obtain ⟨r, τ', e8, e9, hRR⟩ := hO σ τ (xs (n + 1)) (xs (n + 2)) hR
  have ht0 := hT σ τ hR
  have ht1 := hT σ τ' hRR
  refine lv_aload_n (pc := 852) hx hb dL_law_852 rfl (lv_at hl 2 rfl) ?_
  refine lv_aload_n (pc := 853) hx hb dL_law_853 rfl (lv_at hl 3 rfl) ?_
  refine lv_iload_n (pc := 854) hx hb dL_law_854 rfl (lv_at hl 0 rfl) ?_
  refine lv_iconst (pc := 855) (v := 1) hx hb dL_law_855 (by decide) ?_
  refine lv_iadd (pc := 856) hx hb dL_law_856 ?_
  refine l_iald (pc := 857) (n := n + 1) C hX hbl hbA hS (add_toInt (d := 1) hi rfl (by omega)) (by omega) dL_law_857 ?_
  refine lv_aload_n (pc := 858) hx hb dL_law_858 rfl (lv_at hl 3 rfl) ?_
  refine lv_iload_n (pc := 859) hx hb dL_law_859 rfl (lv_at hl 0 rfl) ?_
  refine lv_iconst (pc := 860) (v := 2) hx hb dL_law_860 (by decide) ?_
  refine lv_iadd (pc := 861) hx hb dL_law_861 ?_
  refine l_iald (pc := 862) (n := n + 2) C hX hbl hbA hS (add_toInt (d := 2) hi rfl (by omega)) (by omega) dL_law_862 ?_
  refine l_virt (R := room_1) (pc := 863) (st2 := [.int r]) (rest := []) C hW8 hS (c_X8_falls (K := 200) (by omega) e8) (fun q hq => hq.1) mw_L_98 (kin_0 kdc_0) (Ek_0 kdc_0) rfl ⟨by decide, by decide, by show cells ≤ 600000; omega, by show slots ≤ 7302250; omega⟩ rfl rfl rfl (Nat.le_of_ble_eq_true rfl) hl.1 dL_law_863 (fun H1 locs1 hW8 f1 z1 hS => ?_)
  have hW9 : WR D ac (z + 80) τ H1 := fun k hk => (hW9 k hk).kept (f1 _ (by have h : k < 22 := hk; show z + 80 + k < H.size; omega) (by have h : k < 22 := hk; rintro ⟨h1, h2⟩; simp only at h2; omega))
  have hsz1 : H1.size = z + (98 + 4 * txn σ) := by rw [z1, hsz]
  refine lv_aload_n (pc := 866) hx hb dL_law_866 rfl (lv_at hl 1 rfl) ?_
  refine lv_aload_n (pc := 867) hx hb dL_law_867 rfl (lv_at hl 3 rfl) ?_
  refine lv_iload_n (pc := 868) hx hb dL_law_868 rfl (lv_at hl 0 rfl) ?_
  refine lv_iconst (pc := 869) (v := 1) hx hb dL_law_869 (by decide) ?_
  refine lv_iadd (pc := 870) hx hb dL_law_870 ?_
  refine l_iald (pc := 871) (n := n + 1) C hX hbl hbA hS (add_toInt (d := 1) hi rfl (by omega)) (by omega) dL_law_871 ?_
  refine lv_aload_n (pc := 872) hx hb dL_law_872 rfl (lv_at hl 3 rfl) ?_
  refine lv_iload_n (pc := 873) hx hb dL_law_873 rfl (lv_at hl 0 rfl) ?_
  refine lv_iconst (pc := 874) (v := 2) hx hb dL_law_874 (by decide) ?_
  refine lv_iadd (pc := 875) hx hb dL_law_875 ?_
  refine l_iald (pc := 876) (n := n + 2) C hX hbl hbA hS (add_toInt (d := 2) hi rfl (by omega)) (by omega) dL_law_876 ?_
  refine l_virt (R := room_1) (pc := 877) (st2 := [.int r, .int r]) (rest := [.int r]) C hW9 hS (c_X9_falls (K := 200) (by omega) e9) (fun q hq => by have := hq.1; show z ≤ q; omega) mw_L_101 inR0 Er_0 rfl ⟨by decide, by decide, by show cells ≤ 600000; omega, by show slots ≤ 7302250; omega⟩ rfl rfl rfl (Nat.le_of_ble_eq_true rfl) hl.1 dL_law_877 (fun H2 locs2 hW9 f2 z2 hS => ?_)
  have hW8 : WC D ac z σ H2 := fun k hk => (hW8 k hk).kept (f2 _ (by have h := hk.2; rw [hsz1]; have := ht1; omega) (by have h := inC_ge hk; rintro ⟨h1, h2⟩; omega))
  refine lv_icmp_eq (pc := 880) (tgt := 1508) hx hb dL_law_880 (by decide) (fun _ => ?_) (fun hc => absurd rfl hc)
  refine W.widen (k := cells + 4) (n := slots + 483) (by omega) (by omega) ?_
  exact kk _ _ _ _ hRR ⟨hW8, hW9, z2.trans hsz1, hS⟩
theorem law_pillar {RR : Mem → Mem → Prop} (hO : OP_pillar RR) (hT : ∀ σ τ, RR σ τ → 1 ≤ txn σ) (C : CX code 4 R_law ret D ac p m c s args meth (z, aK, aV) (fun q => z ≤ q)) {b L : Nat} {xs : Nat → Int32} (hX : va_X b L xs s s.heap) (hbl : b < s.heap.size) (hzb : s.heap.size = z) {σ τ : Mem} (hR : RR σ τ) (hW : LWd D ac z s σ τ H locs) {i : Int32} {n : Nat} (hi : i.toInt = (n : Int)) (hn : n + 6 < L) (hL : L ≤ 3584) (hl : lv_has ls 4 [(3, .int i), (2, .ref (z + 80 + 0)), (1, .ref (z + 0)), (0, .ref b)]) (hc : cells + 4 ≤ 600000) (hs : slots + 483 ≤ 7302250)
    (kk : ∀ (σ' τ' : Mem) (H' : Heap) (locs' : List Loc), RR σ' τ' → LWd D ac z s σ' τ' H' locs' → W p l e room_1 s m args below meth c H' locs' (cells + 4) (slots + 483) Q (F0 m 1508 ls [])) : W p l e room_1 s m args below meth c H locs cells slots Q (F0 m 885 ls []) := by
  have hx := C.1.1
  have hb := C.1.2.1
  have hbA : ¬ (fun q => z ≤ q) b := by show ¬ z ≤ b; omega
  obtain ⟨hW8, hW9, hsz, hS⟩ := hW
  obtain ⟨r, τ', e8, e9, hRR⟩ := hO σ τ (xs (n + 1)) hR
  have ht0 := hT σ τ hR
  have ht1 := hT σ τ' hRR
  refine lv_aload_n (pc := 885) hx hb dL_law_885 rfl (lv_at hl 2 rfl) ?_
  refine lv_aload_n (pc := 886) hx hb dL_law_886 rfl (lv_at hl 3 rfl) ?_
  refine lv_iload_n (pc := 887) hx hb dL_law_887 rfl (lv_at hl 0 rfl) ?_
  refine lv_iconst (pc := 888) (v := 1) hx hb dL_law_888 (by decide) ?_
  refine lv_iadd (pc := 889) hx hb dL_law_889 ?_
  refine l_iald (pc := 890) (n := n + 1) C hX hbl hbA hS (add_toInt (d := 1) hi rfl (by omega)) (by omega) dL_law_890 ?_
  refine l_virt (R := room_1) (pc := 891) (st2 := [.int r]) (rest := []) C hW8 hS (c_X8_pillar (K := 200) (by omega) e8) (fun q hq => hq.1) mw_L_102 (kin_0 kdc_0) (Ek_0 kdc_0) rfl ⟨by decide, by decide, by show cells ≤ 600000; omega, by show slots ≤ 7302250; omega⟩ rfl rfl rfl (Nat.le_of_ble_eq_true rfl) hl.1 dL_law_891 (fun H1 locs1 hW8 f1 z1 hS => ?_)
  have hW9 : WR D ac (z + 80) τ H1 := fun k hk => (hW9 k hk).kept (f1 _ (by have h : k < 22 := hk; show z + 80 + k < H.size; omega) (by have h : k < 22 := hk; rintro ⟨h1, h2⟩; simp only at h2; omega))
  have hsz1 : H1.size = z + (98 + 4 * txn σ) := by rw [z1, hsz]
  refine lv_aload_n (pc := 894) hx hb dL_law_894 rfl (lv_at hl 1 rfl) ?_
  refine lv_aload_n (pc := 895) hx hb dL_law_895 rfl (lv_at hl 3 rfl) ?_
  refine lv_iload_n (pc := 896) hx hb dL_law_896 rfl (lv_at hl 0 rfl) ?_
  refine lv_iconst (pc := 897) (v := 1) hx hb dL_law_897 (by decide) ?_
  refine lv_iadd (pc := 898) hx hb dL_law_898 ?_
  refine l_iald (pc := 899) (n := n + 1) C hX hbl hbA hS (add_toInt (d := 1) hi rfl (by omega)) (by omega) dL_law_899 ?_
  refine l_virt (R := room_1) (pc := 900) (st2 := [.int r, .int r]) (rest := [.int r]) C hW9 hS (c_X9_pillar (K := 200) (by omega) e9) (fun q hq => by have := hq.1; show z ≤ q; omega) mw_L_105 inR0 Er_0 rfl ⟨by decide, by decide, by show cells ≤ 600000; omega, by show slots ≤ 7302250; omega⟩ rfl rfl rfl (Nat.le_of_ble_eq_true rfl) hl.1 dL_law_900 (fun H2 locs2 hW9 f2 z2 hS => ?_)
  have hW8 : WC D ac z σ H2 := fun k hk => (hW8 k hk).kept (f2 _ (by have h := hk.2; rw [hsz1]; have := ht1; omega) (by have h := inC_ge hk; rintro ⟨h1, h2⟩; omega))
  refine lv_icmp_eq (pc := 903) (tgt := 1508) hx hb dL_law_903 (by decide) (fun _ => ?_) (fun hc => absurd rfl hc)
  refine W.widen (k := cells + 4) (n := slots + 483) (by omega) (by omega) ?_
  exact kk _ _ _ _ hRR ⟨hW8, hW9, z2.trans hsz1, hS⟩
theorem law_day {RR : Mem → Mem → Prop} (hO : OP_day RR) (hT : ∀ σ τ, RR σ τ → 1 ≤ txn σ) (C : CX code 4 R_law ret D ac p m c s args meth (z, aK, aV) (fun q => z ≤ q)) {b L : Nat} {xs : Nat → Int32} (hX : va_X b L xs s s.heap) (hbl : b < s.heap.size) (hzb : s.heap.size = z) {σ τ : Mem} (hR : RR σ τ) (hW : LWd D ac z s σ τ H locs) {i : Int32} {n : Nat} (hi : i.toInt = (n : Int)) (hn : n + 6 < L) (hL : L ≤ 3584) (hl : lv_has ls 4 [(3, .int i), (2, .ref (z + 80 + 0)), (1, .ref (z + 0)), (0, .ref b)]) (hc : cells + 4 ≤ 600000) (hs : slots + 483 ≤ 7302250)
    (kk : ∀ (σ' τ' : Mem) (H' : Heap) (locs' : List Loc), RR σ' τ' → LWd D ac z s σ' τ' H' locs' → W p l e room_1 s m args below meth c H' locs' (cells + 4) (slots + 483) Q (F0 m 1508 ls [])) : W p l e room_1 s m args below meth c H locs cells slots Q (F0 m 908 ls []) := by
  have hx := C.1.1
  have hb := C.1.2.1
  have hbA : ¬ (fun q => z ≤ q) b := by show ¬ z ≤ b; omega
  obtain ⟨hW8, hW9, hsz, hS⟩ := hW
  obtain ⟨r, σ', τ', e8, e9, hRR, ek⟩ := hO σ τ (xs (n + 1)) (xs (n + 2)) hR
  have ht0 := hT σ τ hR
  have ht1 := hT σ' τ' hRR
  refine lv_aload_n (pc := 908) hx hb dL_law_908 rfl (lv_at hl 2 rfl) ?_
  refine lv_aload_n (pc := 909) hx hb dL_law_909 rfl (lv_at hl 3 rfl) ?_
  refine lv_iload_n (pc := 910) hx hb dL_law_910 rfl (lv_at hl 0 rfl) ?_
  refine lv_iconst (pc := 911) (v := 1) hx hb dL_law_911 (by decide) ?_
  refine lv_iadd (pc := 912) hx hb dL_law_912 ?_
  refine l_iald (pc := 913) (n := n + 1) C hX hbl hbA hS (add_toInt (d := 1) hi rfl (by omega)) (by omega) dL_law_913 ?_
  refine lv_aload_n (pc := 914) hx hb dL_law_914 rfl (lv_at hl 3 rfl) ?_
  refine lv_iload_n (pc := 915) hx hb dL_law_915 rfl (lv_at hl 0 rfl) ?_
  refine lv_iconst (pc := 916) (v := 2) hx hb dL_law_916 (by decide) ?_
  refine lv_iadd (pc := 917) hx hb dL_law_917 ?_
  refine l_iald (pc := 918) (n := n + 2) C hX hbl hbA hS (add_toInt (d := 2) hi rfl (by omega)) (by omega) dL_law_918 ?_
  refine l_virt (R := room_1) (pc := 919) (st2 := [.int r]) (rest := []) C hW8 hS (c_X8_day (K := 200) (by omega) e8) (fun q hq => hq.1) mw_L_106 (kin_0 kdc_0) (Ek_0 kdc_0) rfl ⟨by decide, by decide, by show cells ≤ 600000; omega, by show slots ≤ 7302250; omega⟩ rfl rfl rfl (Nat.le_of_ble_eq_true rfl) hl.1 dL_law_919 (fun H1 locs1 hW8 f1 z1 hS => ?_)
  have hW9 : WR D ac (z + 80) τ H1 := fun k hk => (hW9 k hk).kept (f1 _ (by have h : k < 22 := hk; show z + 80 + k < H.size; omega) (by have h : k < 22 := hk; rintro ⟨h1, h2⟩; simp only at h2; omega))
  have hsz1 : H1.size = z + (98 + 4 * txn σ') := by rw [z1, hsz]; unfold txn; rw [ek]
  refine lv_aload_n (pc := 922) hx hb dL_law_922 rfl (lv_at hl 1 rfl) ?_
  refine lv_aload_n (pc := 923) hx hb dL_law_923 rfl (lv_at hl 3 rfl) ?_
  refine lv_iload_n (pc := 924) hx hb dL_law_924 rfl (lv_at hl 0 rfl) ?_
  refine lv_iconst (pc := 925) (v := 1) hx hb dL_law_925 (by decide) ?_
  refine lv_iadd (pc := 926) hx hb dL_law_926 ?_
  refine l_iald (pc := 927) (n := n + 1) C hX hbl hbA hS (add_toInt (d := 1) hi rfl (by omega)) (by omega) dL_law_927 ?_
  refine lv_aload_n (pc := 928) hx hb dL_law_928 rfl (lv_at hl 3 rfl) ?_
  refine lv_iload_n (pc := 929) hx hb dL_law_929 rfl (lv_at hl 0 rfl) ?_
  refine lv_iconst (pc := 930) (v := 2) hx hb dL_law_930 (by decide) ?_
  refine lv_iadd (pc := 931) hx hb dL_law_931 ?_
  refine l_iald (pc := 932) (n := n + 2) C hX hbl hbA hS (add_toInt (d := 2) hi rfl (by omega)) (by omega) dL_law_932 ?_
  refine l_virt (R := room_1) (pc := 933) (st2 := [.int r, .int r]) (rest := [.int r]) C hW9 hS (c_X9_day (K := 200) (by omega) e9) (fun q hq => by have := hq.1; show z ≤ q; omega) mw_L_109 inR0 Er_0 rfl ⟨by decide, by decide, by show cells ≤ 600000; omega, by show slots ≤ 7302250; omega⟩ rfl rfl rfl (Nat.le_of_ble_eq_true rfl) hl.1 dL_law_933 (fun H2 locs2 hW9 f2 z2 hS => ?_)
  have hW8 : WC D ac z σ' H2 := fun k hk => (hW8 k hk).kept (f2 _ (by have h := hk.2; rw [hsz1]; have := ht1; omega) (by have h := inC_ge hk; rintro ⟨h1, h2⟩; omega))
  refine lv_icmp_eq (pc := 936) (tgt := 1508) hx hb dL_law_936 (by decide) (fun _ => ?_) (fun hc => absurd rfl hc)
  refine W.widen (k := cells + 4) (n := slots + 483) (by omega) (by omega) ?_
  exact kk _ _ _ _ hRR ⟨hW8, hW9, z2.trans hsz1, hS⟩
theorem law_judge {RR : Mem → Mem → Prop} (hO : OP_judge RR) (hT : ∀ σ τ, RR σ τ → 1 ≤ txn σ) (C : CX code 4 R_law ret D ac p m c s args meth (z, aK, aV) (fun q => z ≤ q)) {b L : Nat} {xs : Nat → Int32} (hX : va_X b L xs s s.heap) (hbl : b < s.heap.size) (hzb : s.heap.size = z) {σ τ : Mem} (hR : RR σ τ) (hW : LWd D ac z s σ τ H locs) {i : Int32} {n : Nat} (hi : i.toInt = (n : Int)) (hn : n + 6 < L) (hL : L ≤ 3584) (hl : lv_has ls 4 [(3, .int i), (2, .ref (z + 80 + 0)), (1, .ref (z + 0)), (0, .ref b)]) (hc : cells + 4 ≤ 600000) (hs : slots + 483 ≤ 7302250)
    (kk : ∀ (σ' τ' : Mem) (H' : Heap) (locs' : List Loc), RR σ' τ' → LWd D ac z s σ' τ' H' locs' → W p l e room_1 s m args below meth c H' locs' (cells + 4) (slots + 483) Q (F0 m 1508 ls [])) : W p l e room_1 s m args below meth c H locs cells slots Q (F0 m 941 ls []) := by
  have hx := C.1.1
  have hb := C.1.2.1
  have hbA : ¬ (fun q => z ≤ q) b := by show ¬ z ≤ b; omega
  obtain ⟨hW8, hW9, hsz, hS⟩ := hW
  obtain ⟨r, σ', τ', e8, e9, hRR, ek⟩ := hO σ τ (xs (n + 1)) (xs (n + 2)) hR
  have ht0 := hT σ τ hR
  have ht1 := hT σ' τ' hRR
  refine lv_aload_n (pc := 941) hx hb dL_law_941 rfl (lv_at hl 2 rfl) ?_
  refine lv_aload_n (pc := 942) hx hb dL_law_942 rfl (lv_at hl 3 rfl) ?_
  refine lv_iload_n (pc := 943) hx hb dL_law_943 rfl (lv_at hl 0 rfl) ?_
  refine lv_iconst (pc := 944) (v := 1) hx hb dL_law_944 (by decide) ?_
  refine lv_iadd (pc := 945) hx hb dL_law_945 ?_
  refine l_iald (pc := 946) (n := n + 1) C hX hbl hbA hS (add_toInt (d := 1) hi rfl (by omega)) (by omega) dL_law_946 ?_
  refine lv_aload_n (pc := 947) hx hb dL_law_947 rfl (lv_at hl 3 rfl) ?_
  refine lv_iload_n (pc := 948) hx hb dL_law_948 rfl (lv_at hl 0 rfl) ?_
  refine lv_iconst (pc := 949) (v := 2) hx hb dL_law_949 (by decide) ?_
  refine lv_iadd (pc := 950) hx hb dL_law_950 ?_
  refine l_iald (pc := 951) (n := n + 2) C hX hbl hbA hS (add_toInt (d := 2) hi rfl (by omega)) (by omega) dL_law_951 ?_
  refine l_virt (R := room_1) (pc := 952) (st2 := [.int r]) (rest := []) C hW8 hS (c_X8_judge (K := 200) (by omega) e8) (fun q hq => hq.1) mw_L_110 (kin_0 kdc_0) (Ek_0 kdc_0) rfl ⟨by decide, by decide, by show cells ≤ 600000; omega, by show slots ≤ 7302250; omega⟩ rfl rfl rfl (Nat.le_of_ble_eq_true rfl) hl.1 dL_law_952 (fun H1 locs1 hW8 f1 z1 hS => ?_)
  have hW9 : WR D ac (z + 80) τ H1 := fun k hk => (hW9 k hk).kept (f1 _ (by have h : k < 22 := hk; show z + 80 + k < H.size; omega) (by have h : k < 22 := hk; rintro ⟨h1, h2⟩; simp only at h2; omega))
  have hsz1 : H1.size = z + (98 + 4 * txn σ') := by rw [z1, hsz]; unfold txn; rw [ek]
  refine lv_aload_n (pc := 955) hx hb dL_law_955 rfl (lv_at hl 1 rfl) ?_
  refine lv_aload_n (pc := 956) hx hb dL_law_956 rfl (lv_at hl 3 rfl) ?_
  refine lv_iload_n (pc := 957) hx hb dL_law_957 rfl (lv_at hl 0 rfl) ?_
  refine lv_iconst (pc := 958) (v := 1) hx hb dL_law_958 (by decide) ?_
  refine lv_iadd (pc := 959) hx hb dL_law_959 ?_
  refine l_iald (pc := 960) (n := n + 1) C hX hbl hbA hS (add_toInt (d := 1) hi rfl (by omega)) (by omega) dL_law_960 ?_
  refine lv_aload_n (pc := 961) hx hb dL_law_961 rfl (lv_at hl 3 rfl) ?_
  refine lv_iload_n (pc := 962) hx hb dL_law_962 rfl (lv_at hl 0 rfl) ?_
  refine lv_iconst (pc := 963) (v := 2) hx hb dL_law_963 (by decide) ?_
  refine lv_iadd (pc := 964) hx hb dL_law_964 ?_
  refine l_iald (pc := 965) (n := n + 2) C hX hbl hbA hS (add_toInt (d := 2) hi rfl (by omega)) (by omega) dL_law_965 ?_
  refine l_virt (R := room_1) (pc := 966) (st2 := [.int r, .int r]) (rest := [.int r]) C hW9 hS (c_X9_judge (K := 200) (by omega) e9) (fun q hq => by have := hq.1; show z ≤ q; omega) mw_L_113 inR0 Er_0 rfl ⟨by decide, by decide, by show cells ≤ 600000; omega, by show slots ≤ 7302250; omega⟩ rfl rfl rfl (Nat.le_of_ble_eq_true rfl) hl.1 dL_law_966 (fun H2 locs2 hW9 f2 z2 hS => ?_)
  have hW8 : WC D ac z σ' H2 := fun k hk => (hW8 k hk).kept (f2 _ (by have h := hk.2; rw [hsz1]; have := ht1; omega) (by have h := inC_ge hk; rintro ⟨h1, h2⟩; omega))
  refine lv_icmp_eq (pc := 969) (tgt := 1508) hx hb dL_law_969 (by decide) (fun _ => ?_) (fun hc => absurd rfl hc)
  refine W.widen (k := cells + 4) (n := slots + 483) (by omega) (by omega) ?_
  exact kk _ _ _ _ hRR ⟨hW8, hW9, z2.trans hsz1, hS⟩
theorem law_kinds {RR : Mem → Mem → Prop} (hO : OP_kinds RR) (hT : ∀ σ τ, RR σ τ → 1 ≤ txn σ) (C : CX code 4 R_law ret D ac p m c s args meth (z, aK, aV) (fun q => z ≤ q)) {b L : Nat} {xs : Nat → Int32} (hX : va_X b L xs s s.heap) (hbl : b < s.heap.size) (hzb : s.heap.size = z) {σ τ : Mem} (hR : RR σ τ) (hW : LWd D ac z s σ τ H locs) {i : Int32} {n : Nat} (hi : i.toInt = (n : Int)) (hn : n + 6 < L) (hL : L ≤ 3584) (hl : lv_has ls 4 [(3, .int i), (2, .ref (z + 80 + 0)), (1, .ref (z + 0)), (0, .ref b)]) (hc : cells + 4 ≤ 600000) (hs : slots + 483 ≤ 7302250)
    (kk : ∀ (σ' τ' : Mem) (H' : Heap) (locs' : List Loc), RR σ' τ' → LWd D ac z s σ' τ' H' locs' → W p l e room_1 s m args below meth c H' locs' (cells + 4) (slots + 483) Q (F0 m 1508 ls [])) : W p l e room_1 s m args below meth c H locs cells slots Q (F0 m 974 ls []) := by
  have hx := C.1.1
  have hb := C.1.2.1
  have hbA : ¬ (fun q => z ≤ q) b := by show ¬ z ≤ b; omega
  obtain ⟨hW8, hW9, hsz, hS⟩ := hW
  obtain ⟨r, σ', τ', e8, e9, hRR, ek⟩ := hO σ τ (xs (n + 1)) (xs (n + 2)) (xs (n + 3)) hR
  have ht0 := hT σ τ hR
  have ht1 := hT σ' τ' hRR
  refine lv_aload_n (pc := 974) hx hb dL_law_974 rfl (lv_at hl 2 rfl) ?_
  refine lv_aload_n (pc := 975) hx hb dL_law_975 rfl (lv_at hl 3 rfl) ?_
  refine lv_iload_n (pc := 976) hx hb dL_law_976 rfl (lv_at hl 0 rfl) ?_
  refine lv_iconst (pc := 977) (v := 1) hx hb dL_law_977 (by decide) ?_
  refine lv_iadd (pc := 978) hx hb dL_law_978 ?_
  refine l_iald (pc := 979) (n := n + 1) C hX hbl hbA hS (add_toInt (d := 1) hi rfl (by omega)) (by omega) dL_law_979 ?_
  refine lv_aload_n (pc := 980) hx hb dL_law_980 rfl (lv_at hl 3 rfl) ?_
  refine lv_iload_n (pc := 981) hx hb dL_law_981 rfl (lv_at hl 0 rfl) ?_
  refine lv_iconst (pc := 982) (v := 2) hx hb dL_law_982 (by decide) ?_
  refine lv_iadd (pc := 983) hx hb dL_law_983 ?_
  refine l_iald (pc := 984) (n := n + 2) C hX hbl hbA hS (add_toInt (d := 2) hi rfl (by omega)) (by omega) dL_law_984 ?_
  refine lv_aload_n (pc := 985) hx hb dL_law_985 rfl (lv_at hl 3 rfl) ?_
  refine lv_iload_n (pc := 986) hx hb dL_law_986 rfl (lv_at hl 0 rfl) ?_
  refine lv_iconst (pc := 987) (v := 3) hx hb dL_law_987 (by decide) ?_
  refine lv_iadd (pc := 988) hx hb dL_law_988 ?_
  refine l_iald (pc := 989) (n := n + 3) C hX hbl hbA hS (add_toInt (d := 3) hi rfl (by omega)) (by omega) dL_law_989 ?_
  refine l_virt (R := room_1) (pc := 990) (st2 := [.int r]) (rest := []) C hW8 hS (c_X8_kinds (K := 200) (by omega) e8) (fun q hq => hq.1) mw_L_114 (kin_0 kdc_0) (Ek_0 kdc_0) rfl ⟨by decide, by decide, by show cells ≤ 600000; omega, by show slots ≤ 7302250; omega⟩ rfl rfl rfl (Nat.le_of_ble_eq_true rfl) hl.1 dL_law_990 (fun H1 locs1 hW8 f1 z1 hS => ?_)
  have hW9 : WR D ac (z + 80) τ H1 := fun k hk => (hW9 k hk).kept (f1 _ (by have h : k < 22 := hk; show z + 80 + k < H.size; omega) (by have h : k < 22 := hk; rintro ⟨h1, h2⟩; simp only at h2; omega))
  have hsz1 : H1.size = z + (98 + 4 * txn σ') := by rw [z1, hsz]; unfold txn; rw [ek]
  refine lv_aload_n (pc := 993) hx hb dL_law_993 rfl (lv_at hl 1 rfl) ?_
  refine lv_aload_n (pc := 994) hx hb dL_law_994 rfl (lv_at hl 3 rfl) ?_
  refine lv_iload_n (pc := 995) hx hb dL_law_995 rfl (lv_at hl 0 rfl) ?_
  refine lv_iconst (pc := 996) (v := 1) hx hb dL_law_996 (by decide) ?_
  refine lv_iadd (pc := 997) hx hb dL_law_997 ?_
  refine l_iald (pc := 998) (n := n + 1) C hX hbl hbA hS (add_toInt (d := 1) hi rfl (by omega)) (by omega) dL_law_998 ?_
  refine lv_aload_n (pc := 999) hx hb dL_law_999 rfl (lv_at hl 3 rfl) ?_
  refine lv_iload_n (pc := 1000) hx hb dL_law_1000 rfl (lv_at hl 0 rfl) ?_
  refine lv_iconst (pc := 1001) (v := 2) hx hb dL_law_1001 (by decide) ?_
  refine lv_iadd (pc := 1002) hx hb dL_law_1002 ?_
  refine l_iald (pc := 1003) (n := n + 2) C hX hbl hbA hS (add_toInt (d := 2) hi rfl (by omega)) (by omega) dL_law_1003 ?_
  refine lv_aload_n (pc := 1004) hx hb dL_law_1004 rfl (lv_at hl 3 rfl) ?_
  refine lv_iload_n (pc := 1005) hx hb dL_law_1005 rfl (lv_at hl 0 rfl) ?_
  refine lv_iconst (pc := 1006) (v := 3) hx hb dL_law_1006 (by decide) ?_
  refine lv_iadd (pc := 1007) hx hb dL_law_1007 ?_
  refine l_iald (pc := 1008) (n := n + 3) C hX hbl hbA hS (add_toInt (d := 3) hi rfl (by omega)) (by omega) dL_law_1008 ?_
  refine l_virt (R := room_1) (pc := 1009) (st2 := [.int r, .int r]) (rest := [.int r]) C hW9 hS (c_X9_kinds (K := 200) (by omega) e9) (fun q hq => by have := hq.1; show z ≤ q; omega) mw_L_117 inR0 Er_0 rfl ⟨by decide, by decide, by show cells ≤ 600000; omega, by show slots ≤ 7302250; omega⟩ rfl rfl rfl (Nat.le_of_ble_eq_true rfl) hl.1 dL_law_1009 (fun H2 locs2 hW9 f2 z2 hS => ?_)
  have hW8 : WC D ac z σ' H2 := fun k hk => (hW8 k hk).kept (f2 _ (by have h := hk.2; rw [hsz1]; have := ht1; omega) (by have h := inC_ge hk; rintro ⟨h1, h2⟩; omega))
  refine lv_icmp_eq (pc := 1012) (tgt := 1508) hx hb dL_law_1012 (by decide) (fun _ => ?_) (fun hc => absurd rfl hc)
  refine W.widen (k := cells + 4) (n := slots + 483) (by omega) (by omega) ?_
  exact kk _ _ _ _ hRR ⟨hW8, hW9, z2.trans hsz1, hS⟩
theorem law_since {RR : Mem → Mem → Prop} (hO : OP_since RR) (hT : ∀ σ τ, RR σ τ → 1 ≤ txn σ) (C : CX code 4 R_law ret D ac p m c s args meth (z, aK, aV) (fun q => z ≤ q)) {b L : Nat} {xs : Nat → Int32} (hX : va_X b L xs s s.heap) (hbl : b < s.heap.size) (hzb : s.heap.size = z) {σ τ : Mem} (hR : RR σ τ) (hW : LWd D ac z s σ τ H locs) {i : Int32} {n : Nat} (hi : i.toInt = (n : Int)) (hn : n + 6 < L) (hL : L ≤ 3584) (hl : lv_has ls 4 [(3, .int i), (2, .ref (z + 80 + 0)), (1, .ref (z + 0)), (0, .ref b)]) (hc : cells + 4 ≤ 600000) (hs : slots + 483 ≤ 7302250)
    (kk : ∀ (σ' τ' : Mem) (H' : Heap) (locs' : List Loc), RR σ' τ' → LWd D ac z s σ' τ' H' locs' → W p l e room_1 s m args below meth c H' locs' (cells + 4) (slots + 483) Q (F0 m 1508 ls [])) : W p l e room_1 s m args below meth c H locs cells slots Q (F0 m 1017 ls []) := by
  have hx := C.1.1
  have hb := C.1.2.1
  have hbA : ¬ (fun q => z ≤ q) b := by show ¬ z ≤ b; omega
  obtain ⟨hW8, hW9, hsz, hS⟩ := hW
  obtain ⟨r, σ', τ', e8, e9, hRR, ek⟩ := hO σ τ (xs (n + 1)) (xs (n + 2)) hR
  have ht0 := hT σ τ hR
  have ht1 := hT σ' τ' hRR
  refine lv_aload_n (pc := 1017) hx hb dL_law_1017 rfl (lv_at hl 2 rfl) ?_
  refine lv_aload_n (pc := 1018) hx hb dL_law_1018 rfl (lv_at hl 3 rfl) ?_
  refine lv_iload_n (pc := 1019) hx hb dL_law_1019 rfl (lv_at hl 0 rfl) ?_
  refine lv_iconst (pc := 1020) (v := 1) hx hb dL_law_1020 (by decide) ?_
  refine lv_iadd (pc := 1021) hx hb dL_law_1021 ?_
  refine l_iald (pc := 1022) (n := n + 1) C hX hbl hbA hS (add_toInt (d := 1) hi rfl (by omega)) (by omega) dL_law_1022 ?_
  refine lv_aload_n (pc := 1023) hx hb dL_law_1023 rfl (lv_at hl 3 rfl) ?_
  refine lv_iload_n (pc := 1024) hx hb dL_law_1024 rfl (lv_at hl 0 rfl) ?_
  refine lv_iconst (pc := 1025) (v := 2) hx hb dL_law_1025 (by decide) ?_
  refine lv_iadd (pc := 1026) hx hb dL_law_1026 ?_
  refine l_iald (pc := 1027) (n := n + 2) C hX hbl hbA hS (add_toInt (d := 2) hi rfl (by omega)) (by omega) dL_law_1027 ?_
  refine l_virt (R := room_1) (pc := 1028) (st2 := [.long r]) (rest := []) C hW8 hS (c_X8_since (K := 200) (by omega) e8) (fun q hq => hq.1) mw_L_118 (kin_0 kdc_0) (Ek_0 kdc_0) rfl ⟨by decide, by decide, by show cells ≤ 600000; omega, by show slots ≤ 7302250; omega⟩ rfl rfl rfl (Nat.le_of_ble_eq_true rfl) hl.1 dL_law_1028 (fun H1 locs1 hW8 f1 z1 hS => ?_)
  have hW9 : WR D ac (z + 80) τ H1 := fun k hk => (hW9 k hk).kept (f1 _ (by have h : k < 22 := hk; show z + 80 + k < H.size; omega) (by have h : k < 22 := hk; rintro ⟨h1, h2⟩; simp only at h2; omega))
  have hsz1 : H1.size = z + (98 + 4 * txn σ') := by rw [z1, hsz]; unfold txn; rw [ek]
  refine lv_aload_n (pc := 1031) hx hb dL_law_1031 rfl (lv_at hl 1 rfl) ?_
  refine lv_aload_n (pc := 1032) hx hb dL_law_1032 rfl (lv_at hl 3 rfl) ?_
  refine lv_iload_n (pc := 1033) hx hb dL_law_1033 rfl (lv_at hl 0 rfl) ?_
  refine lv_iconst (pc := 1034) (v := 1) hx hb dL_law_1034 (by decide) ?_
  refine lv_iadd (pc := 1035) hx hb dL_law_1035 ?_
  refine l_iald (pc := 1036) (n := n + 1) C hX hbl hbA hS (add_toInt (d := 1) hi rfl (by omega)) (by omega) dL_law_1036 ?_
  refine lv_aload_n (pc := 1037) hx hb dL_law_1037 rfl (lv_at hl 3 rfl) ?_
  refine lv_iload_n (pc := 1038) hx hb dL_law_1038 rfl (lv_at hl 0 rfl) ?_
  refine lv_iconst (pc := 1039) (v := 2) hx hb dL_law_1039 (by decide) ?_
  refine lv_iadd (pc := 1040) hx hb dL_law_1040 ?_
  refine l_iald (pc := 1041) (n := n + 2) C hX hbl hbA hS (add_toInt (d := 2) hi rfl (by omega)) (by omega) dL_law_1041 ?_
  refine l_virt (R := room_1) (pc := 1042) (st2 := [.long r, .long r]) (rest := [.long r]) C hW9 hS (c_X9_since (K := 200) (by omega) e9) (fun q hq => by have := hq.1; show z ≤ q; omega) mw_L_122 inR0 Er_0 rfl ⟨by decide, by decide, by show cells ≤ 600000; omega, by show slots ≤ 7302250; omega⟩ rfl rfl rfl (Nat.le_of_ble_eq_true rfl) hl.1 dL_law_1042 (fun H2 locs2 hW9 f2 z2 hS => ?_)
  have hW8 : WC D ac z σ' H2 := fun k hk => (hW8 k hk).kept (f2 _ (by have h := hk.2; rw [hsz1]; have := ht1; omega) (by have h := inC_ge hk; rintro ⟨h1, h2⟩; omega))
  refine W.lcmp (pc := 1045) hx hb dL_law_1045 ?_
  rw [show lg_cmp r r = 0 by unfold lg_cmp; simp]
  refine lv_if_eq (pc := 1046) (tgt := 1508) hx hb dL_law_1046 (by decide) (fun _ => ?_) (fun hc => absurd rfl hc)
  refine W.widen (k := cells + 4) (n := slots + 483) (by omega) (by omega) ?_
  exact kk _ _ _ _ hRR ⟨hW8, hW9, z2.trans hsz1, hS⟩
theorem law_laws {RR : Mem → Mem → Prop} (hO : OP_laws RR) (hT : ∀ σ τ, RR σ τ → 1 ≤ txn σ) (C : CX code 4 R_law ret D ac p m c s args meth (z, aK, aV) (fun q => z ≤ q)) {b L : Nat} {xs : Nat → Int32} (hX : va_X b L xs s s.heap) (hbl : b < s.heap.size) (hzb : s.heap.size = z) {σ τ : Mem} (hR : RR σ τ) (hW : LWd D ac z s σ τ H locs) {i : Int32} {n : Nat} (hi : i.toInt = (n : Int)) (hn : n + 6 < L) (hL : L ≤ 3584) (hl : lv_has ls 4 [(3, .int i), (2, .ref (z + 80 + 0)), (1, .ref (z + 0)), (0, .ref b)]) (hc : cells + 4 ≤ 600000) (hs : slots + 483 ≤ 7302250)
    (kk : ∀ (σ' τ' : Mem) (H' : Heap) (locs' : List Loc), RR σ' τ' → LWd D ac z s σ' τ' H' locs' → W p l e room_1 s m args below meth c H' locs' (cells + 4) (slots + 483) Q (F0 m 1508 ls [])) : W p l e room_1 s m args below meth c H locs cells slots Q (F0 m 1051 ls []) := by
  have hx := C.1.1
  have hb := C.1.2.1
  have hbA : ¬ (fun q => z ≤ q) b := by show ¬ z ≤ b; omega
  obtain ⟨hW8, hW9, hsz, hS⟩ := hW
  obtain ⟨r, σ', τ', e8, e9, hRR, ek⟩ := hO σ τ (xs (n + 1)) (xs (n + 2)) hR
  have ht0 := hT σ τ hR
  have ht1 := hT σ' τ' hRR
  refine lv_aload_n (pc := 1051) hx hb dL_law_1051 rfl (lv_at hl 2 rfl) ?_
  refine lv_aload_n (pc := 1052) hx hb dL_law_1052 rfl (lv_at hl 3 rfl) ?_
  refine lv_iload_n (pc := 1053) hx hb dL_law_1053 rfl (lv_at hl 0 rfl) ?_
  refine lv_iconst (pc := 1054) (v := 1) hx hb dL_law_1054 (by decide) ?_
  refine lv_iadd (pc := 1055) hx hb dL_law_1055 ?_
  refine l_iald (pc := 1056) (n := n + 1) C hX hbl hbA hS (add_toInt (d := 1) hi rfl (by omega)) (by omega) dL_law_1056 ?_
  refine lv_aload_n (pc := 1057) hx hb dL_law_1057 rfl (lv_at hl 3 rfl) ?_
  refine lv_iload_n (pc := 1058) hx hb dL_law_1058 rfl (lv_at hl 0 rfl) ?_
  refine lv_iconst (pc := 1059) (v := 2) hx hb dL_law_1059 (by decide) ?_
  refine lv_iadd (pc := 1060) hx hb dL_law_1060 ?_
  refine l_iald (pc := 1061) (n := n + 2) C hX hbl hbA hS (add_toInt (d := 2) hi rfl (by omega)) (by omega) dL_law_1061 ?_
  refine l_virt (R := room_1) (pc := 1062) (st2 := [.int r]) (rest := []) C hW8 hS (c_X8_laws (K := 200) (by omega) e8) (fun q hq => hq.1) mw_L_123 (kin_0 kdc_0) (Ek_0 kdc_0) rfl ⟨by decide, by decide, by show cells ≤ 600000; omega, by show slots ≤ 7302250; omega⟩ rfl rfl rfl (Nat.le_of_ble_eq_true rfl) hl.1 dL_law_1062 (fun H1 locs1 hW8 f1 z1 hS => ?_)
  have hW9 : WR D ac (z + 80) τ H1 := fun k hk => (hW9 k hk).kept (f1 _ (by have h : k < 22 := hk; show z + 80 + k < H.size; omega) (by have h : k < 22 := hk; rintro ⟨h1, h2⟩; simp only at h2; omega))
  have hsz1 : H1.size = z + (98 + 4 * txn σ') := by rw [z1, hsz]; unfold txn; rw [ek]
  refine lv_aload_n (pc := 1065) hx hb dL_law_1065 rfl (lv_at hl 1 rfl) ?_
  refine lv_aload_n (pc := 1066) hx hb dL_law_1066 rfl (lv_at hl 3 rfl) ?_
  refine lv_iload_n (pc := 1067) hx hb dL_law_1067 rfl (lv_at hl 0 rfl) ?_
  refine lv_iconst (pc := 1068) (v := 1) hx hb dL_law_1068 (by decide) ?_
  refine lv_iadd (pc := 1069) hx hb dL_law_1069 ?_
  refine l_iald (pc := 1070) (n := n + 1) C hX hbl hbA hS (add_toInt (d := 1) hi rfl (by omega)) (by omega) dL_law_1070 ?_
  refine lv_aload_n (pc := 1071) hx hb dL_law_1071 rfl (lv_at hl 3 rfl) ?_
  refine lv_iload_n (pc := 1072) hx hb dL_law_1072 rfl (lv_at hl 0 rfl) ?_
  refine lv_iconst (pc := 1073) (v := 2) hx hb dL_law_1073 (by decide) ?_
  refine lv_iadd (pc := 1074) hx hb dL_law_1074 ?_
  refine l_iald (pc := 1075) (n := n + 2) C hX hbl hbA hS (add_toInt (d := 2) hi rfl (by omega)) (by omega) dL_law_1075 ?_
  refine l_virt (R := room_1) (pc := 1076) (st2 := [.int r, .int r]) (rest := [.int r]) C hW9 hS (c_X9_laws (K := 200) (by omega) e9) (fun q hq => by have := hq.1; show z ≤ q; omega) mw_L_126 inR0 Er_0 rfl ⟨by decide, by decide, by show cells ≤ 600000; omega, by show slots ≤ 7302250; omega⟩ rfl rfl rfl (Nat.le_of_ble_eq_true rfl) hl.1 dL_law_1076 (fun H2 locs2 hW9 f2 z2 hS => ?_)
  have hW8 : WC D ac z σ' H2 := fun k hk => (hW8 k hk).kept (f2 _ (by have h := hk.2; rw [hsz1]; have := ht1; omega) (by have h := inC_ge hk; rintro ⟨h1, h2⟩; omega))
  refine lv_icmp_eq (pc := 1079) (tgt := 1508) hx hb dL_law_1079 (by decide) (fun _ => ?_) (fun hc => absurd rfl hc)
  refine W.widen (k := cells + 4) (n := slots + 483) (by omega) (by omega) ?_
  exact kk _ _ _ _ hRR ⟨hW8, hW9, z2.trans hsz1, hS⟩
theorem law_whose {RR : Mem → Mem → Prop} (hO : OP_whose RR) (hT : ∀ σ τ, RR σ τ → 1 ≤ txn σ) (C : CX code 4 R_law ret D ac p m c s args meth (z, aK, aV) (fun q => z ≤ q)) {b L : Nat} {xs : Nat → Int32} (hX : va_X b L xs s s.heap) (hbl : b < s.heap.size) (hzb : s.heap.size = z) {σ τ : Mem} (hR : RR σ τ) (hW : LWd D ac z s σ τ H locs) {i : Int32} {n : Nat} (hi : i.toInt = (n : Int)) (hn : n + 6 < L) (hL : L ≤ 3584) (hl : lv_has ls 4 [(3, .int i), (2, .ref (z + 80 + 0)), (1, .ref (z + 0)), (0, .ref b)]) (hc : cells + 4 ≤ 600000) (hs : slots + 483 ≤ 7302250)
    (kk : ∀ (σ' τ' : Mem) (H' : Heap) (locs' : List Loc), RR σ' τ' → LWd D ac z s σ' τ' H' locs' → W p l e room_1 s m args below meth c H' locs' (cells + 4) (slots + 483) Q (F0 m 1508 ls [])) : W p l e room_1 s m args below meth c H locs cells slots Q (F0 m 1084 ls []) := by
  have hx := C.1.1
  have hb := C.1.2.1
  have hbA : ¬ (fun q => z ≤ q) b := by show ¬ z ≤ b; omega
  obtain ⟨hW8, hW9, hsz, hS⟩ := hW
  obtain ⟨r, σ', τ', e8, e9, hRR, ek⟩ := hO σ τ (xs (n + 1)) hR
  have ht0 := hT σ τ hR
  have ht1 := hT σ' τ' hRR
  refine lv_aload_n (pc := 1084) hx hb dL_law_1084 rfl (lv_at hl 2 rfl) ?_
  refine lv_aload_n (pc := 1085) hx hb dL_law_1085 rfl (lv_at hl 3 rfl) ?_
  refine lv_iload_n (pc := 1086) hx hb dL_law_1086 rfl (lv_at hl 0 rfl) ?_
  refine lv_iconst (pc := 1087) (v := 1) hx hb dL_law_1087 (by decide) ?_
  refine lv_iadd (pc := 1088) hx hb dL_law_1088 ?_
  refine l_iald (pc := 1089) (n := n + 1) C hX hbl hbA hS (add_toInt (d := 1) hi rfl (by omega)) (by omega) dL_law_1089 ?_
  refine l_virt (R := room_1) (pc := 1090) (st2 := [.int r]) (rest := []) C hW8 hS (c_X8_whose (K := 200) (by omega) e8) (fun q hq => hq.1) mw_L_127 (kin_0 kdc_0) (Ek_0 kdc_0) rfl ⟨by decide, by decide, by show cells ≤ 600000; omega, by show slots ≤ 7302250; omega⟩ rfl rfl rfl (Nat.le_of_ble_eq_true rfl) hl.1 dL_law_1090 (fun H1 locs1 hW8 f1 z1 hS => ?_)
  have hW9 : WR D ac (z + 80) τ H1 := fun k hk => (hW9 k hk).kept (f1 _ (by have h : k < 22 := hk; show z + 80 + k < H.size; omega) (by have h : k < 22 := hk; rintro ⟨h1, h2⟩; simp only at h2; omega))
  have hsz1 : H1.size = z + (98 + 4 * txn σ') := by rw [z1, hsz]; unfold txn; rw [ek]
  refine lv_aload_n (pc := 1093) hx hb dL_law_1093 rfl (lv_at hl 1 rfl) ?_
  refine lv_aload_n (pc := 1094) hx hb dL_law_1094 rfl (lv_at hl 3 rfl) ?_
  refine lv_iload_n (pc := 1095) hx hb dL_law_1095 rfl (lv_at hl 0 rfl) ?_
  refine lv_iconst (pc := 1096) (v := 1) hx hb dL_law_1096 (by decide) ?_
  refine lv_iadd (pc := 1097) hx hb dL_law_1097 ?_
  refine l_iald (pc := 1098) (n := n + 1) C hX hbl hbA hS (add_toInt (d := 1) hi rfl (by omega)) (by omega) dL_law_1098 ?_
  refine l_virt (R := room_1) (pc := 1099) (st2 := [.int r, .int r]) (rest := [.int r]) C hW9 hS (c_X9_whose (K := 200) (by omega) e9) (fun q hq => by have := hq.1; show z ≤ q; omega) mw_L_130 inR0 Er_0 rfl ⟨by decide, by decide, by show cells ≤ 600000; omega, by show slots ≤ 7302250; omega⟩ rfl rfl rfl (Nat.le_of_ble_eq_true rfl) hl.1 dL_law_1099 (fun H2 locs2 hW9 f2 z2 hS => ?_)
  have hW8 : WC D ac z σ' H2 := fun k hk => (hW8 k hk).kept (f2 _ (by have h := hk.2; rw [hsz1]; have := ht1; omega) (by have h := inC_ge hk; rintro ⟨h1, h2⟩; omega))
  refine lv_icmp_eq (pc := 1102) (tgt := 1508) hx hb dL_law_1102 (by decide) (fun _ => ?_) (fun hc => absurd rfl hc)
  refine W.widen (k := cells + 4) (n := slots + 483) (by omega) (by omega) ?_
  exact kk _ _ _ _ hRR ⟨hW8, hW9, z2.trans hsz1, hS⟩
end GL
