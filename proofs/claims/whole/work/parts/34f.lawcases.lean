/-! cases of the law -/
section GL
variable {p : Program} {l : Launch} {e : Env} {R : Room} {s : State} {m : MethodId} {args : Array Value} {below : List Frame} {meth : Method} {c : Code} {H : Heap} {locs : List Loc} {cells slots : Nat} {Q : State → Prop}
variable {cc : ByteArray} {nL : Nat} {own : String} {ret : Option FieldType} {D : va_G} {ac : Nat → ClassId} {z idx : Nat} {A : Nat → Prop} {S : SP} {pc : Nat} {ls : Array Slot} {st rest : List Value} {v : Option Value} {aK aV : Nat → Nat}
theorem law_film {RR : Mem → Mem → Prop} (hO : OP_film RR) (hT : ∀ σ τ, RR σ τ → 1 ≤ txn σ) (C : CX code 4 R_law ret D ac p m c s args meth (z, aK, aV) (fun q => z ≤ q)) {b L : Nat} {xs : Nat → Int32} (hX : va_X b L xs s s.heap) (hbl : b < s.heap.size) (hzb : s.heap.size = z) {σ τ : Mem} (hR : RR σ τ) (hW : LWd D ac z s σ τ H locs) {i : Int32} {n : Nat} (hi : i.toInt = (n : Int)) (hn : n + 6 < L) (hL : L ≤ 3584) (hl : lv_has ls 4 [(3, .int i), (2, .ref (z + 80 + 0)), (1, .ref (z + 0)), (0, .ref b)]) (hc : cells + 4 ≤ 600000) (hs : slots + 483 ≤ 7302250)
    (kk : ∀ (σ' τ' : Mem) (H' : Heap) (locs' : List Loc), RR σ' τ' → LWd D ac z s σ' τ' H' locs' → W p l e room_1 s m args below meth c H' locs' (cells + 4) (slots + 483) Q (F0 m 1508 ls [])) : W p l e room_1 s m args below meth c H locs cells slots Q (F0 m 1107 ls []) := by
  have hx := C.1.1
  have hb := C.1.2.1
  have hbA : ¬ (fun q => z ≤ q) b := by show ¬ z ≤ b; omega
  obtain ⟨hW8, hW9, hsz, hS⟩ := hW
  obtain ⟨r, σ', τ', e8, e9, hRR, ek⟩ := hO σ τ (xs (n + 1)) (xs (n + 2)) (xs (n + 3)) hR
  have ht0 := hT σ τ hR
  have ht1 := hT σ' τ' hRR
  refine lv_aload_n (pc := 1107) hx hb dL_law_1107 rfl (lv_at hl 2 rfl) ?_
  refine lv_aload_n (pc := 1108) hx hb dL_law_1108 rfl (lv_at hl 3 rfl) ?_
  refine lv_iload_n (pc := 1109) hx hb dL_law_1109 rfl (lv_at hl 0 rfl) ?_
  refine lv_iconst (pc := 1110) (v := 1) hx hb dL_law_1110 (by decide) ?_
  refine lv_iadd (pc := 1111) hx hb dL_law_1111 ?_
  refine l_iald (pc := 1112) (n := n + 1) C hX hbl hbA hS (add_toInt (d := 1) hi rfl (by omega)) (by omega) dL_law_1112 ?_
  refine lv_aload_n (pc := 1113) hx hb dL_law_1113 rfl (lv_at hl 3 rfl) ?_
  refine lv_iload_n (pc := 1114) hx hb dL_law_1114 rfl (lv_at hl 0 rfl) ?_
  refine lv_iconst (pc := 1115) (v := 2) hx hb dL_law_1115 (by decide) ?_
  refine lv_iadd (pc := 1116) hx hb dL_law_1116 ?_
  refine l_iald (pc := 1117) (n := n + 2) C hX hbl hbA hS (add_toInt (d := 2) hi rfl (by omega)) (by omega) dL_law_1117 ?_
  refine lv_aload_n (pc := 1118) hx hb dL_law_1118 rfl (lv_at hl 3 rfl) ?_
  refine lv_iload_n (pc := 1119) hx hb dL_law_1119 rfl (lv_at hl 0 rfl) ?_
  refine lv_iconst (pc := 1120) (v := 3) hx hb dL_law_1120 (by decide) ?_
  refine lv_iadd (pc := 1121) hx hb dL_law_1121 ?_
  refine l_iald (pc := 1122) (n := n + 3) C hX hbl hbA hS (add_toInt (d := 3) hi rfl (by omega)) (by omega) dL_law_1122 ?_
  refine l_virt (R := room_1) (pc := 1123) (st2 := [.int r]) (rest := []) C hW8 hS (c_X8_film (K := 200) (by omega) e8) (fun q hq => hq.1) mw_L_131 (kin_0 kdc_0) (Ek_0 kdc_0) rfl ⟨by decide, by decide, by show cells ≤ 600000; omega, by show slots ≤ 7302250; omega⟩ rfl rfl rfl (Nat.le_of_ble_eq_true rfl) hl.1 dL_law_1123 (fun H1 locs1 hW8 f1 z1 hS => ?_)
  have hW9 : WR D ac (z + 80) τ H1 := fun k hk => (hW9 k hk).kept (f1 _ (by have h : k < 22 := hk; show z + 80 + k < H.size; omega) (by have h : k < 22 := hk; rintro ⟨h1, h2⟩; simp only at h2; omega))
  have hsz1 : H1.size = z + (98 + 4 * txn σ') := by rw [z1, hsz]; unfold txn; rw [ek]
  refine lv_aload_n (pc := 1126) hx hb dL_law_1126 rfl (lv_at hl 1 rfl) ?_
  refine lv_aload_n (pc := 1127) hx hb dL_law_1127 rfl (lv_at hl 3 rfl) ?_
  refine lv_iload_n (pc := 1128) hx hb dL_law_1128 rfl (lv_at hl 0 rfl) ?_
  refine lv_iconst (pc := 1129) (v := 1) hx hb dL_law_1129 (by decide) ?_
  refine lv_iadd (pc := 1130) hx hb dL_law_1130 ?_
  refine l_iald (pc := 1131) (n := n + 1) C hX hbl hbA hS (add_toInt (d := 1) hi rfl (by omega)) (by omega) dL_law_1131 ?_
  refine lv_aload_n (pc := 1132) hx hb dL_law_1132 rfl (lv_at hl 3 rfl) ?_
  refine lv_iload_n (pc := 1133) hx hb dL_law_1133 rfl (lv_at hl 0 rfl) ?_
  refine lv_iconst (pc := 1134) (v := 2) hx hb dL_law_1134 (by decide) ?_
  refine lv_iadd (pc := 1135) hx hb dL_law_1135 ?_
  refine l_iald (pc := 1136) (n := n + 2) C hX hbl hbA hS (add_toInt (d := 2) hi rfl (by omega)) (by omega) dL_law_1136 ?_
  refine lv_aload_n (pc := 1137) hx hb dL_law_1137 rfl (lv_at hl 3 rfl) ?_
  refine lv_iload_n (pc := 1138) hx hb dL_law_1138 rfl (lv_at hl 0 rfl) ?_
  refine lv_iconst (pc := 1139) (v := 3) hx hb dL_law_1139 (by decide) ?_
  refine lv_iadd (pc := 1140) hx hb dL_law_1140 ?_
  refine l_iald (pc := 1141) (n := n + 3) C hX hbl hbA hS (add_toInt (d := 3) hi rfl (by omega)) (by omega) dL_law_1141 ?_
  refine l_virt (R := room_1) (pc := 1142) (st2 := [.int r, .int r]) (rest := [.int r]) C hW9 hS (c_X9_film (K := 200) (by omega) e9) (fun q hq => by have := hq.1; show z ≤ q; omega) mw_L_134 inR0 Er_0 rfl ⟨by decide, by decide, by show cells ≤ 600000; omega, by show slots ≤ 7302250; omega⟩ rfl rfl rfl (Nat.le_of_ble_eq_true rfl) hl.1 dL_law_1142 (fun H2 locs2 hW9 f2 z2 hS => ?_)
  have hW8 : WC D ac z σ' H2 := fun k hk => (hW8 k hk).kept (f2 _ (by have h := hk.2; rw [hsz1]; have := ht1; omega) (by have h := inC_ge hk; rintro ⟨h1, h2⟩; omega))
  refine lv_icmp_eq (pc := 1145) (tgt := 1508) hx hb dL_law_1145 (by decide) (fun _ => ?_) (fun hc => absurd rfl hc)
  refine W.widen (k := cells + 4) (n := slots + 483) (by omega) (by omega) ?_
  exact kk _ _ _ _ hRR ⟨hW8, hW9, z2.trans hsz1, hS⟩
theorem law_drawn {RR : Mem → Mem → Prop} (hO : OP_drawn RR) (hT : ∀ σ τ, RR σ τ → 1 ≤ txn σ) (C : CX code 4 R_law ret D ac p m c s args meth (z, aK, aV) (fun q => z ≤ q)) {b L : Nat} {xs : Nat → Int32} (hX : va_X b L xs s s.heap) (hbl : b < s.heap.size) (hzb : s.heap.size = z) {σ τ : Mem} (hR : RR σ τ) (hW : LWd D ac z s σ τ H locs) {i : Int32} {n : Nat} (hi : i.toInt = (n : Int)) (hn : n + 6 < L) (hL : L ≤ 3584) (hl : lv_has ls 4 [(3, .int i), (2, .ref (z + 80 + 0)), (1, .ref (z + 0)), (0, .ref b)]) (hc : cells + 4 ≤ 600000) (hs : slots + 483 ≤ 7302250)
    (kk : ∀ (σ' τ' : Mem) (H' : Heap) (locs' : List Loc), RR σ' τ' → LWd D ac z s σ' τ' H' locs' → W p l e room_1 s m args below meth c H' locs' (cells + 4) (slots + 483) Q (F0 m 1508 ls [])) : W p l e room_1 s m args below meth c H locs cells slots Q (F0 m 1150 ls []) := by
  have hx := C.1.1
  have hb := C.1.2.1
  have hbA : ¬ (fun q => z ≤ q) b := by show ¬ z ≤ b; omega
  obtain ⟨hW8, hW9, hsz, hS⟩ := hW
  obtain ⟨r, σ', τ', e8, e9, hRR, ek⟩ := hO σ τ (xs (n + 1)) (xs (n + 2)) (xs (n + 3)) hR
  have ht0 := hT σ τ hR
  have ht1 := hT σ' τ' hRR
  refine lv_aload_n (pc := 1150) hx hb dL_law_1150 rfl (lv_at hl 2 rfl) ?_
  refine lv_aload_n (pc := 1151) hx hb dL_law_1151 rfl (lv_at hl 3 rfl) ?_
  refine lv_iload_n (pc := 1152) hx hb dL_law_1152 rfl (lv_at hl 0 rfl) ?_
  refine lv_iconst (pc := 1153) (v := 1) hx hb dL_law_1153 (by decide) ?_
  refine lv_iadd (pc := 1154) hx hb dL_law_1154 ?_
  refine l_iald (pc := 1155) (n := n + 1) C hX hbl hbA hS (add_toInt (d := 1) hi rfl (by omega)) (by omega) dL_law_1155 ?_
  refine lv_aload_n (pc := 1156) hx hb dL_law_1156 rfl (lv_at hl 3 rfl) ?_
  refine lv_iload_n (pc := 1157) hx hb dL_law_1157 rfl (lv_at hl 0 rfl) ?_
  refine lv_iconst (pc := 1158) (v := 2) hx hb dL_law_1158 (by decide) ?_
  refine lv_iadd (pc := 1159) hx hb dL_law_1159 ?_
  refine l_iald (pc := 1160) (n := n + 2) C hX hbl hbA hS (add_toInt (d := 2) hi rfl (by omega)) (by omega) dL_law_1160 ?_
  refine lv_aload_n (pc := 1161) hx hb dL_law_1161 rfl (lv_at hl 3 rfl) ?_
  refine lv_iload_n (pc := 1162) hx hb dL_law_1162 rfl (lv_at hl 0 rfl) ?_
  refine lv_iconst (pc := 1163) (v := 3) hx hb dL_law_1163 (by decide) ?_
  refine lv_iadd (pc := 1164) hx hb dL_law_1164 ?_
  refine l_iald (pc := 1165) (n := n + 3) C hX hbl hbA hS (add_toInt (d := 3) hi rfl (by omega)) (by omega) dL_law_1165 ?_
  refine l_virt (R := room_1) (pc := 1166) (st2 := [.int r]) (rest := []) C hW8 hS (c_X8_drawn (K := 200) (by omega) e8) (fun q hq => hq.1) mw_L_135 (kin_0 kdc_0) (Ek_0 kdc_0) rfl ⟨by decide, by decide, by show cells ≤ 600000; omega, by show slots ≤ 7302250; omega⟩ rfl rfl rfl (Nat.le_of_ble_eq_true rfl) hl.1 dL_law_1166 (fun H1 locs1 hW8 f1 z1 hS => ?_)
  have hW9 : WR D ac (z + 80) τ H1 := fun k hk => (hW9 k hk).kept (f1 _ (by have h : k < 22 := hk; show z + 80 + k < H.size; omega) (by have h : k < 22 := hk; rintro ⟨h1, h2⟩; simp only at h2; omega))
  have hsz1 : H1.size = z + (98 + 4 * txn σ') := by rw [z1, hsz]; unfold txn; rw [ek]
  refine lv_aload_n (pc := 1169) hx hb dL_law_1169 rfl (lv_at hl 1 rfl) ?_
  refine lv_aload_n (pc := 1170) hx hb dL_law_1170 rfl (lv_at hl 3 rfl) ?_
  refine lv_iload_n (pc := 1171) hx hb dL_law_1171 rfl (lv_at hl 0 rfl) ?_
  refine lv_iconst (pc := 1172) (v := 1) hx hb dL_law_1172 (by decide) ?_
  refine lv_iadd (pc := 1173) hx hb dL_law_1173 ?_
  refine l_iald (pc := 1174) (n := n + 1) C hX hbl hbA hS (add_toInt (d := 1) hi rfl (by omega)) (by omega) dL_law_1174 ?_
  refine lv_aload_n (pc := 1175) hx hb dL_law_1175 rfl (lv_at hl 3 rfl) ?_
  refine lv_iload_n (pc := 1176) hx hb dL_law_1176 rfl (lv_at hl 0 rfl) ?_
  refine lv_iconst (pc := 1177) (v := 2) hx hb dL_law_1177 (by decide) ?_
  refine lv_iadd (pc := 1178) hx hb dL_law_1178 ?_
  refine l_iald (pc := 1179) (n := n + 2) C hX hbl hbA hS (add_toInt (d := 2) hi rfl (by omega)) (by omega) dL_law_1179 ?_
  refine lv_aload_n (pc := 1180) hx hb dL_law_1180 rfl (lv_at hl 3 rfl) ?_
  refine lv_iload_n (pc := 1181) hx hb dL_law_1181 rfl (lv_at hl 0 rfl) ?_
  refine lv_iconst (pc := 1182) (v := 3) hx hb dL_law_1182 (by decide) ?_
  refine lv_iadd (pc := 1183) hx hb dL_law_1183 ?_
  refine l_iald (pc := 1184) (n := n + 3) C hX hbl hbA hS (add_toInt (d := 3) hi rfl (by omega)) (by omega) dL_law_1184 ?_
  refine l_virt (R := room_1) (pc := 1185) (st2 := [.int r, .int r]) (rest := [.int r]) C hW9 hS (c_X9_drawn (K := 200) (by omega) e9) (fun q hq => by have := hq.1; show z ≤ q; omega) mw_L_138 inR0 Er_0 rfl ⟨by decide, by decide, by show cells ≤ 600000; omega, by show slots ≤ 7302250; omega⟩ rfl rfl rfl (Nat.le_of_ble_eq_true rfl) hl.1 dL_law_1185 (fun H2 locs2 hW9 f2 z2 hS => ?_)
  have hW8 : WC D ac z σ' H2 := fun k hk => (hW8 k hk).kept (f2 _ (by have h := hk.2; rw [hsz1]; have := ht1; omega) (by have h := inC_ge hk; rintro ⟨h1, h2⟩; omega))
  refine lv_icmp_eq (pc := 1188) (tgt := 1508) hx hb dL_law_1188 (by decide) (fun _ => ?_) (fun hc => absurd rfl hc)
  refine W.widen (k := cells + 4) (n := slots + 483) (by omega) (by omega) ?_
  exact kk _ _ _ _ hRR ⟨hW8, hW9, z2.trans hsz1, hS⟩
theorem law_odds {RR : Mem → Mem → Prop} (hO : OP_odds RR) (hT : ∀ σ τ, RR σ τ → 1 ≤ txn σ) (C : CX code 4 R_law ret D ac p m c s args meth (z, aK, aV) (fun q => z ≤ q)) {b L : Nat} {xs : Nat → Int32} (hX : va_X b L xs s s.heap) (hbl : b < s.heap.size) (hzb : s.heap.size = z) {σ τ : Mem} (hR : RR σ τ) (hW : LWd D ac z s σ τ H locs) {i : Int32} {n : Nat} (hi : i.toInt = (n : Int)) (hn : n + 6 < L) (hL : L ≤ 3584) (hl : lv_has ls 4 [(3, .int i), (2, .ref (z + 80 + 0)), (1, .ref (z + 0)), (0, .ref b)]) (hc : cells + 4 ≤ 600000) (hs : slots + 483 ≤ 7302250)
    (kk : ∀ (σ' τ' : Mem) (H' : Heap) (locs' : List Loc), RR σ' τ' → LWd D ac z s σ' τ' H' locs' → W p l e room_1 s m args below meth c H' locs' (cells + 4) (slots + 483) Q (F0 m 1508 ls [])) : W p l e room_1 s m args below meth c H locs cells slots Q (F0 m 1193 ls []) := by
  have hx := C.1.1
  have hb := C.1.2.1
  have hbA : ¬ (fun q => z ≤ q) b := by show ¬ z ≤ b; omega
  obtain ⟨hW8, hW9, hsz, hS⟩ := hW
  obtain ⟨r, σ', τ', e8, e9, hRR, ek⟩ := hO σ τ (xs (n + 1)) (xs (n + 2)) (xs (n + 3)) (xs (n + 4)) hR
  have ht0 := hT σ τ hR
  have ht1 := hT σ' τ' hRR
  refine lv_aload_n (pc := 1193) hx hb dL_law_1193 rfl (lv_at hl 2 rfl) ?_
  refine lv_aload_n (pc := 1194) hx hb dL_law_1194 rfl (lv_at hl 3 rfl) ?_
  refine lv_iload_n (pc := 1195) hx hb dL_law_1195 rfl (lv_at hl 0 rfl) ?_
  refine lv_iconst (pc := 1196) (v := 1) hx hb dL_law_1196 (by decide) ?_
  refine lv_iadd (pc := 1197) hx hb dL_law_1197 ?_
  refine l_iald (pc := 1198) (n := n + 1) C hX hbl hbA hS (add_toInt (d := 1) hi rfl (by omega)) (by omega) dL_law_1198 ?_
  refine lv_aload_n (pc := 1199) hx hb dL_law_1199 rfl (lv_at hl 3 rfl) ?_
  refine lv_iload_n (pc := 1200) hx hb dL_law_1200 rfl (lv_at hl 0 rfl) ?_
  refine lv_iconst (pc := 1201) (v := 2) hx hb dL_law_1201 (by decide) ?_
  refine lv_iadd (pc := 1202) hx hb dL_law_1202 ?_
  refine l_iald (pc := 1203) (n := n + 2) C hX hbl hbA hS (add_toInt (d := 2) hi rfl (by omega)) (by omega) dL_law_1203 ?_
  refine lv_aload_n (pc := 1204) hx hb dL_law_1204 rfl (lv_at hl 3 rfl) ?_
  refine lv_iload_n (pc := 1205) hx hb dL_law_1205 rfl (lv_at hl 0 rfl) ?_
  refine lv_iconst (pc := 1206) (v := 3) hx hb dL_law_1206 (by decide) ?_
  refine lv_iadd (pc := 1207) hx hb dL_law_1207 ?_
  refine l_iald (pc := 1208) (n := n + 3) C hX hbl hbA hS (add_toInt (d := 3) hi rfl (by omega)) (by omega) dL_law_1208 ?_
  refine lv_aload_n (pc := 1209) hx hb dL_law_1209 rfl (lv_at hl 3 rfl) ?_
  refine lv_iload_n (pc := 1210) hx hb dL_law_1210 rfl (lv_at hl 0 rfl) ?_
  refine lv_iconst (pc := 1211) (v := 4) hx hb dL_law_1211 (by decide) ?_
  refine lv_iadd (pc := 1212) hx hb dL_law_1212 ?_
  refine l_iald (pc := 1213) (n := n + 4) C hX hbl hbA hS (add_toInt (d := 4) hi rfl (by omega)) (by omega) dL_law_1213 ?_
  refine l_virt (R := room_1) (pc := 1214) (st2 := [.long r]) (rest := []) C hW8 hS (c_X8_odds (K := 200) (by omega) e8) (fun q hq => hq.1) mw_L_139 (kin_0 kdc_0) (Ek_0 kdc_0) rfl ⟨by decide, by decide, by show cells ≤ 600000; omega, by show slots ≤ 7302250; omega⟩ rfl rfl rfl (Nat.le_of_ble_eq_true rfl) hl.1 dL_law_1214 (fun H1 locs1 hW8 f1 z1 hS => ?_)
  have hW9 : WR D ac (z + 80) τ H1 := fun k hk => (hW9 k hk).kept (f1 _ (by have h : k < 22 := hk; show z + 80 + k < H.size; omega) (by have h : k < 22 := hk; rintro ⟨h1, h2⟩; simp only at h2; omega))
  have hsz1 : H1.size = z + (98 + 4 * txn σ') := by rw [z1, hsz]; unfold txn; rw [ek]
  refine lv_aload_n (pc := 1217) hx hb dL_law_1217 rfl (lv_at hl 1 rfl) ?_
  refine lv_aload_n (pc := 1218) hx hb dL_law_1218 rfl (lv_at hl 3 rfl) ?_
  refine lv_iload_n (pc := 1219) hx hb dL_law_1219 rfl (lv_at hl 0 rfl) ?_
  refine lv_iconst (pc := 1220) (v := 1) hx hb dL_law_1220 (by decide) ?_
  refine lv_iadd (pc := 1221) hx hb dL_law_1221 ?_
  refine l_iald (pc := 1222) (n := n + 1) C hX hbl hbA hS (add_toInt (d := 1) hi rfl (by omega)) (by omega) dL_law_1222 ?_
  refine lv_aload_n (pc := 1223) hx hb dL_law_1223 rfl (lv_at hl 3 rfl) ?_
  refine lv_iload_n (pc := 1224) hx hb dL_law_1224 rfl (lv_at hl 0 rfl) ?_
  refine lv_iconst (pc := 1225) (v := 2) hx hb dL_law_1225 (by decide) ?_
  refine lv_iadd (pc := 1226) hx hb dL_law_1226 ?_
  refine l_iald (pc := 1227) (n := n + 2) C hX hbl hbA hS (add_toInt (d := 2) hi rfl (by omega)) (by omega) dL_law_1227 ?_
  refine lv_aload_n (pc := 1228) hx hb dL_law_1228 rfl (lv_at hl 3 rfl) ?_
  refine lv_iload_n (pc := 1229) hx hb dL_law_1229 rfl (lv_at hl 0 rfl) ?_
  refine lv_iconst (pc := 1230) (v := 3) hx hb dL_law_1230 (by decide) ?_
  refine lv_iadd (pc := 1231) hx hb dL_law_1231 ?_
  refine l_iald (pc := 1232) (n := n + 3) C hX hbl hbA hS (add_toInt (d := 3) hi rfl (by omega)) (by omega) dL_law_1232 ?_
  refine lv_aload_n (pc := 1233) hx hb dL_law_1233 rfl (lv_at hl 3 rfl) ?_
  refine lv_iload_n (pc := 1234) hx hb dL_law_1234 rfl (lv_at hl 0 rfl) ?_
  refine lv_iconst (pc := 1235) (v := 4) hx hb dL_law_1235 (by decide) ?_
  refine lv_iadd (pc := 1236) hx hb dL_law_1236 ?_
  refine l_iald (pc := 1237) (n := n + 4) C hX hbl hbA hS (add_toInt (d := 4) hi rfl (by omega)) (by omega) dL_law_1237 ?_
  refine l_virt (R := room_1) (pc := 1238) (st2 := [.long r, .long r]) (rest := [.long r]) C hW9 hS (c_X9_odds (K := 200) (by omega) e9) (fun q hq => by have := hq.1; show z ≤ q; omega) mw_L_143 inR0 Er_0 rfl ⟨by decide, by decide, by show cells ≤ 600000; omega, by show slots ≤ 7302250; omega⟩ rfl rfl rfl (Nat.le_of_ble_eq_true rfl) hl.1 dL_law_1238 (fun H2 locs2 hW9 f2 z2 hS => ?_)
  have hW8 : WC D ac z σ' H2 := fun k hk => (hW8 k hk).kept (f2 _ (by have h := hk.2; rw [hsz1]; have := ht1; omega) (by have h := inC_ge hk; rintro ⟨h1, h2⟩; omega))
  refine W.lcmp (pc := 1241) hx hb dL_law_1241 ?_
  rw [show lg_cmp r r = 0 by unfold lg_cmp; simp]
  refine lv_if_eq (pc := 1242) (tgt := 1508) hx hb dL_law_1242 (by decide) (fun _ => ?_) (fun hc => absurd rfl hc)
  refine W.widen (k := cells + 4) (n := slots + 483) (by omega) (by omega) ?_
  exact kk _ _ _ _ hRR ⟨hW8, hW9, z2.trans hsz1, hS⟩
theorem law_image {RR : Mem → Mem → Prop} (hO : OP_image RR) (hT : ∀ σ τ, RR σ τ → 1 ≤ txn σ) (C : CX code 4 R_law ret D ac p m c s args meth (z, aK, aV) (fun q => z ≤ q)) {b L : Nat} {xs : Nat → Int32} (hX : va_X b L xs s s.heap) (hbl : b < s.heap.size) (hzb : s.heap.size = z) {σ τ : Mem} (hR : RR σ τ) (hW : LWd D ac z s σ τ H locs) {i : Int32} {n : Nat} (hi : i.toInt = (n : Int)) (hn : n + 6 < L) (hL : L ≤ 3584) (hl : lv_has ls 4 [(3, .int i), (2, .ref (z + 80 + 0)), (1, .ref (z + 0)), (0, .ref b)]) (hc : cells + 4 ≤ 600000) (hs : slots + 483 ≤ 7302250)
    (kk : ∀ (σ' τ' : Mem) (H' : Heap) (locs' : List Loc), RR σ' τ' → LWd D ac z s σ' τ' H' locs' → W p l e room_1 s m args below meth c H' locs' (cells + 4) (slots + 483) Q (F0 m 1508 ls [])) : W p l e room_1 s m args below meth c H locs cells slots Q (F0 m 1247 ls []) := by
  have hx := C.1.1
  have hb := C.1.2.1
  have hbA : ¬ (fun q => z ≤ q) b := by show ¬ z ≤ b; omega
  obtain ⟨hW8, hW9, hsz, hS⟩ := hW
  obtain ⟨r, σ', τ', e8, e9, hRR, ek⟩ := hO σ τ hR
  have ht0 := hT σ τ hR
  have ht1 := hT σ' τ' hRR
  refine lv_aload_n (pc := 1247) hx hb dL_law_1247 rfl (lv_at hl 2 rfl) ?_
  refine l_virt (R := room_1) (pc := 1248) (st2 := [.int r]) (rest := []) C hW8 hS (c_X8_image (K := 200) (by omega) e8) (fun q hq => hq.1) mw_L_144 (kin_0 kdc_0) (Ek_0 kdc_0) rfl ⟨by decide, by decide, by show cells ≤ 600000; omega, by show slots ≤ 7302250; omega⟩ rfl rfl rfl (Nat.le_of_ble_eq_true rfl) hl.1 dL_law_1248 (fun H1 locs1 hW8 f1 z1 hS => ?_)
  have hW9 : WR D ac (z + 80) τ H1 := fun k hk => (hW9 k hk).kept (f1 _ (by have h : k < 22 := hk; show z + 80 + k < H.size; omega) (by have h : k < 22 := hk; rintro ⟨h1, h2⟩; simp only at h2; omega))
  have hsz1 : H1.size = z + (98 + 4 * txn σ') := by rw [z1, hsz]; unfold txn; rw [ek]
  refine lv_aload_n (pc := 1251) hx hb dL_law_1251 rfl (lv_at hl 1 rfl) ?_
  refine l_virt (R := room_1) (pc := 1252) (st2 := [.int r, .int r]) (rest := [.int r]) C hW9 hS (c_X9_image (K := 200) (by omega) e9) (fun q hq => by have := hq.1; show z ≤ q; omega) mw_L_147 inR0 Er_0 rfl ⟨by decide, by decide, by show cells ≤ 600000; omega, by show slots ≤ 7302250; omega⟩ rfl rfl rfl (Nat.le_of_ble_eq_true rfl) hl.1 dL_law_1252 (fun H2 locs2 hW9 f2 z2 hS => ?_)
  have hW8 : WC D ac z σ' H2 := fun k hk => (hW8 k hk).kept (f2 _ (by have h := hk.2; rw [hsz1]; have := ht1; omega) (by have h := inC_ge hk; rintro ⟨h1, h2⟩; omega))
  refine lv_icmp_eq (pc := 1255) (tgt := 1508) hx hb dL_law_1255 (by decide) (fun _ => ?_) (fun hc => absurd rfl hc)
  refine W.widen (k := cells + 4) (n := slots + 483) (by omega) (by omega) ?_
  exact kk _ _ _ _ hRR ⟨hW8, hW9, z2.trans hsz1, hS⟩
theorem law_back {RR : Mem → Mem → Prop} (hO : OP_back RR) (hT : ∀ σ τ, RR σ τ → 1 ≤ txn σ) (C : CX code 4 R_law ret D ac p m c s args meth (z, aK, aV) (fun q => z ≤ q)) {b L : Nat} {xs : Nat → Int32} (hX : va_X b L xs s s.heap) (hbl : b < s.heap.size) (hzb : s.heap.size = z) {σ τ : Mem} (hR : RR σ τ) (hW : LWd D ac z s σ τ H locs) {i : Int32} {n : Nat} (hi : i.toInt = (n : Int)) (hn : n + 6 < L) (hL : L ≤ 3584) (hl : lv_has ls 4 [(3, .int i), (2, .ref (z + 80 + 0)), (1, .ref (z + 0)), (0, .ref b)]) (hc : cells + 4 ≤ 600000) (hs : slots + 483 ≤ 7302250)
    (kk : ∀ (σ' τ' : Mem) (H' : Heap) (locs' : List Loc), RR σ' τ' → LWd D ac z s σ' τ' H' locs' → W p l e room_1 s m args below meth c H' locs' (cells + 4) (slots + 483) Q (F0 m 1508 ls [])) : W p l e room_1 s m args below meth c H locs cells slots Q (F0 m 1260 ls []) := by
  have hx := C.1.1
  have hb := C.1.2.1
  have hbA : ¬ (fun q => z ≤ q) b := by show ¬ z ≤ b; omega
  obtain ⟨hW8, hW9, hsz, hS⟩ := hW
  obtain ⟨r, σ', τ', e8, e9, hRR, ek⟩ := hO σ τ hR
  have ht0 := hT σ τ hR
  have ht1 := hT σ' τ' hRR
  refine lv_aload_n (pc := 1260) hx hb dL_law_1260 rfl (lv_at hl 2 rfl) ?_
  refine l_virt (R := room_1) (pc := 1261) (st2 := [.int r]) (rest := []) C hW8 hS (c_X8_back (K := 200) (by omega) e8) (fun q hq => hq.1) mw_L_148 (kin_0 kdc_0) (Ek_0 kdc_0) rfl ⟨by decide, by decide, by show cells ≤ 600000; omega, by show slots ≤ 7302250; omega⟩ rfl rfl rfl (Nat.le_of_ble_eq_true rfl) hl.1 dL_law_1261 (fun H1 locs1 hW8 f1 z1 hS => ?_)
  have hW9 : WR D ac (z + 80) τ H1 := fun k hk => (hW9 k hk).kept (f1 _ (by have h : k < 22 := hk; show z + 80 + k < H.size; omega) (by have h : k < 22 := hk; rintro ⟨h1, h2⟩; simp only at h2; omega))
  have hsz1 : H1.size = z + (98 + 4 * txn σ') := by rw [z1, hsz]; unfold txn; rw [ek]
  refine lv_aload_n (pc := 1264) hx hb dL_law_1264 rfl (lv_at hl 1 rfl) ?_
  refine l_virt (R := room_1) (pc := 1265) (st2 := [.int r, .int r]) (rest := [.int r]) C hW9 hS (c_X9_back (K := 200) (by omega) e9) (fun q hq => by have := hq.1; show z ≤ q; omega) mw_L_151 inR0 Er_0 rfl ⟨by decide, by decide, by show cells ≤ 600000; omega, by show slots ≤ 7302250; omega⟩ rfl rfl rfl (Nat.le_of_ble_eq_true rfl) hl.1 dL_law_1265 (fun H2 locs2 hW9 f2 z2 hS => ?_)
  have hW8 : WC D ac z σ' H2 := fun k hk => (hW8 k hk).kept (f2 _ (by have h := hk.2; rw [hsz1]; have := ht1; omega) (by have h := inC_ge hk; rintro ⟨h1, h2⟩; omega))
  refine lv_icmp_eq (pc := 1268) (tgt := 1508) hx hb dL_law_1268 (by decide) (fun _ => ?_) (fun hc => absurd rfl hc)
  refine W.widen (k := cells + 4) (n := slots + 483) (by omega) (by omega) ?_
  exact kk _ _ _ _ hRR ⟨hW8, hW9, z2.trans hsz1, hS⟩
theorem law_sheet {RR : Mem → Mem → Prop} (hO : OP_sheet RR) (hT : ∀ σ τ, RR σ τ → 1 ≤ txn σ) (C : CX code 4 R_law ret D ac p m c s args meth (z, aK, aV) (fun q => z ≤ q)) {b L : Nat} {xs : Nat → Int32} (hX : va_X b L xs s s.heap) (hbl : b < s.heap.size) (hzb : s.heap.size = z) {σ τ : Mem} (hR : RR σ τ) (hW : LWd D ac z s σ τ H locs) {i : Int32} {n : Nat} (hi : i.toInt = (n : Int)) (hn : n + 6 < L) (hL : L ≤ 3584) (hl : lv_has ls 4 [(3, .int i), (2, .ref (z + 80 + 0)), (1, .ref (z + 0)), (0, .ref b)]) (hc : cells + 4 ≤ 600000) (hs : slots + 483 ≤ 7302250)
    (kk : ∀ (σ' τ' : Mem) (H' : Heap) (locs' : List Loc), RR σ' τ' → LWd D ac z s σ' τ' H' locs' → W p l e room_1 s m args below meth c H' locs' (cells + 4) (slots + 483) Q (F0 m 1508 ls [])) : W p l e room_1 s m args below meth c H locs cells slots Q (F0 m 1273 ls []) := by
  have hx := C.1.1
  have hb := C.1.2.1
  have hbA : ¬ (fun q => z ≤ q) b := by show ¬ z ≤ b; omega
  obtain ⟨hW8, hW9, hsz, hS⟩ := hW
  obtain ⟨r, σ', τ', e8, e9, hRR, ek⟩ := hO σ τ (xs (n + 1)) (xs (n + 2)) (xs (n + 3)) hR
  have ht0 := hT σ τ hR
  have ht1 := hT σ' τ' hRR
  refine lv_aload_n (pc := 1273) hx hb dL_law_1273 rfl (lv_at hl 2 rfl) ?_
  refine lv_aload_n (pc := 1274) hx hb dL_law_1274 rfl (lv_at hl 3 rfl) ?_
  refine lv_iload_n (pc := 1275) hx hb dL_law_1275 rfl (lv_at hl 0 rfl) ?_
  refine lv_iconst (pc := 1276) (v := 1) hx hb dL_law_1276 (by decide) ?_
  refine lv_iadd (pc := 1277) hx hb dL_law_1277 ?_
  refine l_iald (pc := 1278) (n := n + 1) C hX hbl hbA hS (add_toInt (d := 1) hi rfl (by omega)) (by omega) dL_law_1278 ?_
  refine lv_aload_n (pc := 1279) hx hb dL_law_1279 rfl (lv_at hl 3 rfl) ?_
  refine lv_iload_n (pc := 1280) hx hb dL_law_1280 rfl (lv_at hl 0 rfl) ?_
  refine lv_iconst (pc := 1281) (v := 2) hx hb dL_law_1281 (by decide) ?_
  refine lv_iadd (pc := 1282) hx hb dL_law_1282 ?_
  refine l_iald (pc := 1283) (n := n + 2) C hX hbl hbA hS (add_toInt (d := 2) hi rfl (by omega)) (by omega) dL_law_1283 ?_
  refine lv_aload_n (pc := 1284) hx hb dL_law_1284 rfl (lv_at hl 3 rfl) ?_
  refine lv_iload_n (pc := 1285) hx hb dL_law_1285 rfl (lv_at hl 0 rfl) ?_
  refine lv_iconst (pc := 1286) (v := 3) hx hb dL_law_1286 (by decide) ?_
  refine lv_iadd (pc := 1287) hx hb dL_law_1287 ?_
  refine l_iald (pc := 1288) (n := n + 3) C hX hbl hbA hS (add_toInt (d := 3) hi rfl (by omega)) (by omega) dL_law_1288 ?_
  refine l_virt (R := room_1) (pc := 1289) (st2 := [.int r]) (rest := []) C hW8 hS (c_X8_sheet (K := 200) (by omega) e8) (fun q hq => hq.1) mw_L_152 (kin_0 kdc_0) (Ek_0 kdc_0) rfl ⟨by decide, by decide, by show cells ≤ 600000; omega, by show slots ≤ 7302250; omega⟩ rfl rfl rfl (Nat.le_of_ble_eq_true rfl) hl.1 dL_law_1289 (fun H1 locs1 hW8 f1 z1 hS => ?_)
  have hW9 : WR D ac (z + 80) τ H1 := fun k hk => (hW9 k hk).kept (f1 _ (by have h : k < 22 := hk; show z + 80 + k < H.size; omega) (by have h : k < 22 := hk; rintro ⟨h1, h2⟩; simp only at h2; omega))
  have hsz1 : H1.size = z + (98 + 4 * txn σ') := by rw [z1, hsz]; unfold txn; rw [ek]
  refine lv_aload_n (pc := 1292) hx hb dL_law_1292 rfl (lv_at hl 1 rfl) ?_
  refine lv_aload_n (pc := 1293) hx hb dL_law_1293 rfl (lv_at hl 3 rfl) ?_
  refine lv_iload_n (pc := 1294) hx hb dL_law_1294 rfl (lv_at hl 0 rfl) ?_
  refine lv_iconst (pc := 1295) (v := 1) hx hb dL_law_1295 (by decide) ?_
  refine lv_iadd (pc := 1296) hx hb dL_law_1296 ?_
  refine l_iald (pc := 1297) (n := n + 1) C hX hbl hbA hS (add_toInt (d := 1) hi rfl (by omega)) (by omega) dL_law_1297 ?_
  refine lv_aload_n (pc := 1298) hx hb dL_law_1298 rfl (lv_at hl 3 rfl) ?_
  refine lv_iload_n (pc := 1299) hx hb dL_law_1299 rfl (lv_at hl 0 rfl) ?_
  refine lv_iconst (pc := 1300) (v := 2) hx hb dL_law_1300 (by decide) ?_
  refine lv_iadd (pc := 1301) hx hb dL_law_1301 ?_
  refine l_iald (pc := 1302) (n := n + 2) C hX hbl hbA hS (add_toInt (d := 2) hi rfl (by omega)) (by omega) dL_law_1302 ?_
  refine lv_aload_n (pc := 1303) hx hb dL_law_1303 rfl (lv_at hl 3 rfl) ?_
  refine lv_iload_n (pc := 1304) hx hb dL_law_1304 rfl (lv_at hl 0 rfl) ?_
  refine lv_iconst (pc := 1305) (v := 3) hx hb dL_law_1305 (by decide) ?_
  refine lv_iadd (pc := 1306) hx hb dL_law_1306 ?_
  refine l_iald (pc := 1307) (n := n + 3) C hX hbl hbA hS (add_toInt (d := 3) hi rfl (by omega)) (by omega) dL_law_1307 ?_
  refine l_virt (R := room_1) (pc := 1308) (st2 := [.int r, .int r]) (rest := [.int r]) C hW9 hS (c_X9_sheet (K := 200) (by omega) e9) (fun q hq => by have := hq.1; show z ≤ q; omega) mw_L_155 inR0 Er_0 rfl ⟨by decide, by decide, by show cells ≤ 600000; omega, by show slots ≤ 7302250; omega⟩ rfl rfl rfl (Nat.le_of_ble_eq_true rfl) hl.1 dL_law_1308 (fun H2 locs2 hW9 f2 z2 hS => ?_)
  have hW8 : WC D ac z σ' H2 := fun k hk => (hW8 k hk).kept (f2 _ (by have h := hk.2; rw [hsz1]; have := ht1; omega) (by have h := inC_ge hk; rintro ⟨h1, h2⟩; omega))
  refine lv_icmp_eq (pc := 1311) (tgt := 1508) hx hb dL_law_1311 (by decide) (fun _ => ?_) (fun hc => absurd rfl hc)
  refine W.widen (k := cells + 4) (n := slots + 483) (by omega) (by omega) ?_
  exact kk _ _ _ _ hRR ⟨hW8, hW9, z2.trans hsz1, hS⟩
theorem law_cell {RR : Mem → Mem → Prop} (hO : OP_cell RR) (hT : ∀ σ τ, RR σ τ → 1 ≤ txn σ) (C : CX code 4 R_law ret D ac p m c s args meth (z, aK, aV) (fun q => z ≤ q)) {b L : Nat} {xs : Nat → Int32} (hX : va_X b L xs s s.heap) (hbl : b < s.heap.size) (hzb : s.heap.size = z) {σ τ : Mem} (hR : RR σ τ) (hW : LWd D ac z s σ τ H locs) {i : Int32} {n : Nat} (hi : i.toInt = (n : Int)) (hn : n + 6 < L) (hL : L ≤ 3584) (hl : lv_has ls 4 [(3, .int i), (2, .ref (z + 80 + 0)), (1, .ref (z + 0)), (0, .ref b)]) (hc : cells + 4 ≤ 600000) (hs : slots + 483 ≤ 7302250)
    (kk : ∀ (σ' τ' : Mem) (H' : Heap) (locs' : List Loc), RR σ' τ' → LWd D ac z s σ' τ' H' locs' → W p l e room_1 s m args below meth c H' locs' (cells + 4) (slots + 483) Q (F0 m 1508 ls [])) : W p l e room_1 s m args below meth c H locs cells slots Q (F0 m 1316 ls []) := by
  have hx := C.1.1
  have hb := C.1.2.1
  have hbA : ¬ (fun q => z ≤ q) b := by show ¬ z ≤ b; omega
  obtain ⟨hW8, hW9, hsz, hS⟩ := hW
  obtain ⟨r, σ', τ', e8, e9, hRR, ek⟩ := hO σ τ (xs (n + 1)) (xs (n + 2)) (xs (n + 3)) hR
  have ht0 := hT σ τ hR
  have ht1 := hT σ' τ' hRR
  refine lv_aload_n (pc := 1316) hx hb dL_law_1316 rfl (lv_at hl 2 rfl) ?_
  refine lv_aload_n (pc := 1317) hx hb dL_law_1317 rfl (lv_at hl 3 rfl) ?_
  refine lv_iload_n (pc := 1318) hx hb dL_law_1318 rfl (lv_at hl 0 rfl) ?_
  refine lv_iconst (pc := 1319) (v := 1) hx hb dL_law_1319 (by decide) ?_
  refine lv_iadd (pc := 1320) hx hb dL_law_1320 ?_
  refine l_iald (pc := 1321) (n := n + 1) C hX hbl hbA hS (add_toInt (d := 1) hi rfl (by omega)) (by omega) dL_law_1321 ?_
  refine lv_aload_n (pc := 1322) hx hb dL_law_1322 rfl (lv_at hl 3 rfl) ?_
  refine lv_iload_n (pc := 1323) hx hb dL_law_1323 rfl (lv_at hl 0 rfl) ?_
  refine lv_iconst (pc := 1324) (v := 2) hx hb dL_law_1324 (by decide) ?_
  refine lv_iadd (pc := 1325) hx hb dL_law_1325 ?_
  refine l_iald (pc := 1326) (n := n + 2) C hX hbl hbA hS (add_toInt (d := 2) hi rfl (by omega)) (by omega) dL_law_1326 ?_
  refine lv_aload_n (pc := 1327) hx hb dL_law_1327 rfl (lv_at hl 3 rfl) ?_
  refine lv_iload_n (pc := 1328) hx hb dL_law_1328 rfl (lv_at hl 0 rfl) ?_
  refine lv_iconst (pc := 1329) (v := 3) hx hb dL_law_1329 (by decide) ?_
  refine lv_iadd (pc := 1330) hx hb dL_law_1330 ?_
  refine l_iald (pc := 1331) (n := n + 3) C hX hbl hbA hS (add_toInt (d := 3) hi rfl (by omega)) (by omega) dL_law_1331 ?_
  refine l_virt (R := room_1) (pc := 1332) (st2 := [.int r]) (rest := []) C hW8 hS (c_X8_cell (K := 200) (by omega) e8) (fun q hq => hq.1) mw_L_156 (kin_0 kdc_0) (Ek_0 kdc_0) rfl ⟨by decide, by decide, by show cells ≤ 600000; omega, by show slots ≤ 7302250; omega⟩ rfl rfl rfl (Nat.le_of_ble_eq_true rfl) hl.1 dL_law_1332 (fun H1 locs1 hW8 f1 z1 hS => ?_)
  have hW9 : WR D ac (z + 80) τ H1 := fun k hk => (hW9 k hk).kept (f1 _ (by have h : k < 22 := hk; show z + 80 + k < H.size; omega) (by have h : k < 22 := hk; rintro ⟨h1, h2⟩; simp only at h2; omega))
  have hsz1 : H1.size = z + (98 + 4 * txn σ') := by rw [z1, hsz]; unfold txn; rw [ek]
  refine lv_aload_n (pc := 1335) hx hb dL_law_1335 rfl (lv_at hl 1 rfl) ?_
  refine lv_aload_n (pc := 1336) hx hb dL_law_1336 rfl (lv_at hl 3 rfl) ?_
  refine lv_iload_n (pc := 1337) hx hb dL_law_1337 rfl (lv_at hl 0 rfl) ?_
  refine lv_iconst (pc := 1338) (v := 1) hx hb dL_law_1338 (by decide) ?_
  refine lv_iadd (pc := 1339) hx hb dL_law_1339 ?_
  refine l_iald (pc := 1340) (n := n + 1) C hX hbl hbA hS (add_toInt (d := 1) hi rfl (by omega)) (by omega) dL_law_1340 ?_
  refine lv_aload_n (pc := 1341) hx hb dL_law_1341 rfl (lv_at hl 3 rfl) ?_
  refine lv_iload_n (pc := 1342) hx hb dL_law_1342 rfl (lv_at hl 0 rfl) ?_
  refine lv_iconst (pc := 1343) (v := 2) hx hb dL_law_1343 (by decide) ?_
  refine lv_iadd (pc := 1344) hx hb dL_law_1344 ?_
  refine l_iald (pc := 1345) (n := n + 2) C hX hbl hbA hS (add_toInt (d := 2) hi rfl (by omega)) (by omega) dL_law_1345 ?_
  refine lv_aload_n (pc := 1346) hx hb dL_law_1346 rfl (lv_at hl 3 rfl) ?_
  refine lv_iload_n (pc := 1347) hx hb dL_law_1347 rfl (lv_at hl 0 rfl) ?_
  refine lv_iconst (pc := 1348) (v := 3) hx hb dL_law_1348 (by decide) ?_
  refine lv_iadd (pc := 1349) hx hb dL_law_1349 ?_
  refine l_iald (pc := 1350) (n := n + 3) C hX hbl hbA hS (add_toInt (d := 3) hi rfl (by omega)) (by omega) dL_law_1350 ?_
  refine l_virt (R := room_1) (pc := 1351) (st2 := [.int r, .int r]) (rest := [.int r]) C hW9 hS (c_X9_cell (K := 200) (by omega) e9) (fun q hq => by have := hq.1; show z ≤ q; omega) mw_L_159 inR0 Er_0 rfl ⟨by decide, by decide, by show cells ≤ 600000; omega, by show slots ≤ 7302250; omega⟩ rfl rfl rfl (Nat.le_of_ble_eq_true rfl) hl.1 dL_law_1351 (fun H2 locs2 hW9 f2 z2 hS => ?_)
  have hW8 : WC D ac z σ' H2 := fun k hk => (hW8 k hk).kept (f2 _ (by have h := hk.2; rw [hsz1]; have := ht1; omega) (by have h := inC_ge hk; rintro ⟨h1, h2⟩; omega))
  refine lv_icmp_eq (pc := 1354) (tgt := 1508) hx hb dL_law_1354 (by decide) (fun _ => ?_) (fun hc => absurd rfl hc)
  refine W.widen (k := cells + 4) (n := slots + 483) (by omega) (by omega) ?_
  exact kk _ _ _ _ hRR ⟨hW8, hW9, z2.trans hsz1, hS⟩
theorem law_copy {RR : Mem → Mem → Prop} (hO : OP_copy RR) (hT : ∀ σ τ, RR σ τ → 1 ≤ txn σ) (C : CX code 4 R_law ret D ac p m c s args meth (z, aK, aV) (fun q => z ≤ q)) {b L : Nat} {xs : Nat → Int32} (hX : va_X b L xs s s.heap) (hbl : b < s.heap.size) (hzb : s.heap.size = z) {σ τ : Mem} (hR : RR σ τ) (hW : LWd D ac z s σ τ H locs) {i : Int32} {n : Nat} (hi : i.toInt = (n : Int)) (hn : n + 6 < L) (hL : L ≤ 3584) (hl : lv_has ls 4 [(3, .int i), (2, .ref (z + 80 + 0)), (1, .ref (z + 0)), (0, .ref b)]) (hc : cells + 4 ≤ 600000) (hs : slots + 483 ≤ 7302250)
    (kk : ∀ (σ' τ' : Mem) (H' : Heap) (locs' : List Loc), RR σ' τ' → LWd D ac z s σ' τ' H' locs' → W p l e room_1 s m args below meth c H' locs' (cells + 4) (slots + 483) Q (F0 m 1508 ls [])) : W p l e room_1 s m args below meth c H locs cells slots Q (F0 m 1359 ls []) := by
  have hx := C.1.1
  have hb := C.1.2.1
  have hbA : ¬ (fun q => z ≤ q) b := by show ¬ z ≤ b; omega
  obtain ⟨hW8, hW9, hsz, hS⟩ := hW
  obtain ⟨r, σ', τ', e8, e9, hRR, ek⟩ := hO σ τ (xs (n + 1)) (xs (n + 2)) (xs (n + 3)) (xs (n + 4)) (xs (n + 5)) hR
  have ht0 := hT σ τ hR
  have ht1 := hT σ' τ' hRR
  refine lv_aload_n (pc := 1359) hx hb dL_law_1359 rfl (lv_at hl 2 rfl) ?_
  refine lv_aload_n (pc := 1360) hx hb dL_law_1360 rfl (lv_at hl 3 rfl) ?_
  refine lv_iload_n (pc := 1361) hx hb dL_law_1361 rfl (lv_at hl 0 rfl) ?_
  refine lv_iconst (pc := 1362) (v := 1) hx hb dL_law_1362 (by decide) ?_
  refine lv_iadd (pc := 1363) hx hb dL_law_1363 ?_
  refine l_iald (pc := 1364) (n := n + 1) C hX hbl hbA hS (add_toInt (d := 1) hi rfl (by omega)) (by omega) dL_law_1364 ?_
  refine lv_aload_n (pc := 1365) hx hb dL_law_1365 rfl (lv_at hl 3 rfl) ?_
  refine lv_iload_n (pc := 1366) hx hb dL_law_1366 rfl (lv_at hl 0 rfl) ?_
  refine lv_iconst (pc := 1367) (v := 2) hx hb dL_law_1367 (by decide) ?_
  refine lv_iadd (pc := 1368) hx hb dL_law_1368 ?_
  refine l_iald (pc := 1369) (n := n + 2) C hX hbl hbA hS (add_toInt (d := 2) hi rfl (by omega)) (by omega) dL_law_1369 ?_
  refine lv_aload_n (pc := 1370) hx hb dL_law_1370 rfl (lv_at hl 3 rfl) ?_
  refine lv_iload_n (pc := 1371) hx hb dL_law_1371 rfl (lv_at hl 0 rfl) ?_
  refine lv_iconst (pc := 1372) (v := 3) hx hb dL_law_1372 (by decide) ?_
  refine lv_iadd (pc := 1373) hx hb dL_law_1373 ?_
  refine l_iald (pc := 1374) (n := n + 3) C hX hbl hbA hS (add_toInt (d := 3) hi rfl (by omega)) (by omega) dL_law_1374 ?_
  refine lv_aload_n (pc := 1375) hx hb dL_law_1375 rfl (lv_at hl 3 rfl) ?_
  refine lv_iload_n (pc := 1376) hx hb dL_law_1376 rfl (lv_at hl 0 rfl) ?_
  refine lv_iconst (pc := 1377) (v := 4) hx hb dL_law_1377 (by decide) ?_
  refine lv_iadd (pc := 1378) hx hb dL_law_1378 ?_
  refine l_iald (pc := 1379) (n := n + 4) C hX hbl hbA hS (add_toInt (d := 4) hi rfl (by omega)) (by omega) dL_law_1379 ?_
  refine lv_aload_n (pc := 1380) hx hb dL_law_1380 rfl (lv_at hl 3 rfl) ?_
  refine lv_iload_n (pc := 1381) hx hb dL_law_1381 rfl (lv_at hl 0 rfl) ?_
  refine lv_iconst (pc := 1382) (v := 5) hx hb dL_law_1382 (by decide) ?_
  refine lv_iadd (pc := 1383) hx hb dL_law_1383 ?_
  refine l_iald (pc := 1384) (n := n + 5) C hX hbl hbA hS (add_toInt (d := 5) hi rfl (by omega)) (by omega) dL_law_1384 ?_
  refine l_virt (R := room_1) (pc := 1385) (st2 := [.int r]) (rest := []) C hW8 hS (c_X8_copy (K := 200) (by omega) e8) (fun q hq => hq.1) mw_L_160 (kin_0 kdc_0) (Ek_0 kdc_0) rfl ⟨by decide, by decide, by show cells ≤ 600000; omega, by show slots ≤ 7302250; omega⟩ rfl rfl rfl (Nat.le_of_ble_eq_true rfl) hl.1 dL_law_1385 (fun H1 locs1 hW8 f1 z1 hS => ?_)
  have hW9 : WR D ac (z + 80) τ H1 := fun k hk => (hW9 k hk).kept (f1 _ (by have h : k < 22 := hk; show z + 80 + k < H.size; omega) (by have h : k < 22 := hk; rintro ⟨h1, h2⟩; simp only at h2; omega))
  have hsz1 : H1.size = z + (98 + 4 * txn σ') := by rw [z1, hsz]; unfold txn; rw [ek]
  refine lv_aload_n (pc := 1388) hx hb dL_law_1388 rfl (lv_at hl 1 rfl) ?_
  refine lv_aload_n (pc := 1389) hx hb dL_law_1389 rfl (lv_at hl 3 rfl) ?_
  refine lv_iload_n (pc := 1390) hx hb dL_law_1390 rfl (lv_at hl 0 rfl) ?_
  refine lv_iconst (pc := 1391) (v := 1) hx hb dL_law_1391 (by decide) ?_
  refine lv_iadd (pc := 1392) hx hb dL_law_1392 ?_
  refine l_iald (pc := 1393) (n := n + 1) C hX hbl hbA hS (add_toInt (d := 1) hi rfl (by omega)) (by omega) dL_law_1393 ?_
  refine lv_aload_n (pc := 1394) hx hb dL_law_1394 rfl (lv_at hl 3 rfl) ?_
  refine lv_iload_n (pc := 1395) hx hb dL_law_1395 rfl (lv_at hl 0 rfl) ?_
  refine lv_iconst (pc := 1396) (v := 2) hx hb dL_law_1396 (by decide) ?_
  refine lv_iadd (pc := 1397) hx hb dL_law_1397 ?_
  refine l_iald (pc := 1398) (n := n + 2) C hX hbl hbA hS (add_toInt (d := 2) hi rfl (by omega)) (by omega) dL_law_1398 ?_
  refine lv_aload_n (pc := 1399) hx hb dL_law_1399 rfl (lv_at hl 3 rfl) ?_
  refine lv_iload_n (pc := 1400) hx hb dL_law_1400 rfl (lv_at hl 0 rfl) ?_
  refine lv_iconst (pc := 1401) (v := 3) hx hb dL_law_1401 (by decide) ?_
  refine lv_iadd (pc := 1402) hx hb dL_law_1402 ?_
  refine l_iald (pc := 1403) (n := n + 3) C hX hbl hbA hS (add_toInt (d := 3) hi rfl (by omega)) (by omega) dL_law_1403 ?_
  refine lv_aload_n (pc := 1404) hx hb dL_law_1404 rfl (lv_at hl 3 rfl) ?_
  refine lv_iload_n (pc := 1405) hx hb dL_law_1405 rfl (lv_at hl 0 rfl) ?_
  refine lv_iconst (pc := 1406) (v := 4) hx hb dL_law_1406 (by decide) ?_
  refine lv_iadd (pc := 1407) hx hb dL_law_1407 ?_
  refine l_iald (pc := 1408) (n := n + 4) C hX hbl hbA hS (add_toInt (d := 4) hi rfl (by omega)) (by omega) dL_law_1408 ?_
  refine lv_aload_n (pc := 1409) hx hb dL_law_1409 rfl (lv_at hl 3 rfl) ?_
  refine lv_iload_n (pc := 1410) hx hb dL_law_1410 rfl (lv_at hl 0 rfl) ?_
  refine lv_iconst (pc := 1411) (v := 5) hx hb dL_law_1411 (by decide) ?_
  refine lv_iadd (pc := 1412) hx hb dL_law_1412 ?_
  refine l_iald (pc := 1413) (n := n + 5) C hX hbl hbA hS (add_toInt (d := 5) hi rfl (by omega)) (by omega) dL_law_1413 ?_
  refine l_virt (R := room_1) (pc := 1414) (st2 := [.int r, .int r]) (rest := [.int r]) C hW9 hS (c_X9_copy (K := 200) (by omega) e9) (fun q hq => by have := hq.1; show z ≤ q; omega) mw_L_164 inR0 Er_0 rfl ⟨by decide, by decide, by show cells ≤ 600000; omega, by show slots ≤ 7302250; omega⟩ rfl rfl rfl (Nat.le_of_ble_eq_true rfl) hl.1 dL_law_1414 (fun H2 locs2 hW9 f2 z2 hS => ?_)
  have hW8 : WC D ac z σ' H2 := fun k hk => (hW8 k hk).kept (f2 _ (by have h := hk.2; rw [hsz1]; have := ht1; omega) (by have h := inC_ge hk; rintro ⟨h1, h2⟩; omega))
  refine lv_icmp_eq (pc := 1417) (tgt := 1508) hx hb dL_law_1417 (by decide) (fun _ => ?_) (fun hc => absurd rfl hc)
  refine W.widen (k := cells + 4) (n := slots + 483) (by omega) (by omega) ?_
  exact kk _ _ _ _ hRR ⟨hW8, hW9, z2.trans hsz1, hS⟩
theorem law_menBy {RR : Mem → Mem → Prop} (hO : OP_menBy RR) (hT : ∀ σ τ, RR σ τ → 1 ≤ txn σ) (C : CX code 4 R_law ret D ac p m c s args meth (z, aK, aV) (fun q => z ≤ q)) {b L : Nat} {xs : Nat → Int32} (hX : va_X b L xs s s.heap) (hbl : b < s.heap.size) (hzb : s.heap.size = z) {σ τ : Mem} (hR : RR σ τ) (hW : LWd D ac z s σ τ H locs) {i : Int32} {n : Nat} (hi : i.toInt = (n : Int)) (hn : n + 6 < L) (hL : L ≤ 3584) (hl : lv_has ls 4 [(3, .int i), (2, .ref (z + 80 + 0)), (1, .ref (z + 0)), (0, .ref b)]) (hc : cells + 4 ≤ 600000) (hs : slots + 483 ≤ 7302250)
    (kk : ∀ (σ' τ' : Mem) (H' : Heap) (locs' : List Loc), RR σ' τ' → LWd D ac z s σ' τ' H' locs' → W p l e room_1 s m args below meth c H' locs' (cells + 4) (slots + 483) Q (F0 m 1508 ls [])) : W p l e room_1 s m args below meth c H locs cells slots Q (F0 m 1422 ls []) := by
  have hx := C.1.1
  have hb := C.1.2.1
  have hbA : ¬ (fun q => z ≤ q) b := by show ¬ z ≤ b; omega
  obtain ⟨hW8, hW9, hsz, hS⟩ := hW
  obtain ⟨r, σ', τ', e8, e9, hRR, ek⟩ := hO σ τ (xs (n + 1)) (xs (n + 2)) (xs (n + 3)) (xs (n + 4)) hR
  have ht0 := hT σ τ hR
  have ht1 := hT σ' τ' hRR
  refine lv_aload_n (pc := 1422) hx hb dL_law_1422 rfl (lv_at hl 2 rfl) ?_
  refine lv_aload_n (pc := 1423) hx hb dL_law_1423 rfl (lv_at hl 3 rfl) ?_
  refine lv_iload_n (pc := 1424) hx hb dL_law_1424 rfl (lv_at hl 0 rfl) ?_
  refine lv_iconst (pc := 1425) (v := 1) hx hb dL_law_1425 (by decide) ?_
  refine lv_iadd (pc := 1426) hx hb dL_law_1426 ?_
  refine l_iald (pc := 1427) (n := n + 1) C hX hbl hbA hS (add_toInt (d := 1) hi rfl (by omega)) (by omega) dL_law_1427 ?_
  refine lv_aload_n (pc := 1428) hx hb dL_law_1428 rfl (lv_at hl 3 rfl) ?_
  refine lv_iload_n (pc := 1429) hx hb dL_law_1429 rfl (lv_at hl 0 rfl) ?_
  refine lv_iconst (pc := 1430) (v := 2) hx hb dL_law_1430 (by decide) ?_
  refine lv_iadd (pc := 1431) hx hb dL_law_1431 ?_
  refine l_iald (pc := 1432) (n := n + 2) C hX hbl hbA hS (add_toInt (d := 2) hi rfl (by omega)) (by omega) dL_law_1432 ?_
  refine lv_aload_n (pc := 1433) hx hb dL_law_1433 rfl (lv_at hl 3 rfl) ?_
  refine lv_iload_n (pc := 1434) hx hb dL_law_1434 rfl (lv_at hl 0 rfl) ?_
  refine lv_iconst (pc := 1435) (v := 3) hx hb dL_law_1435 (by decide) ?_
  refine lv_iadd (pc := 1436) hx hb dL_law_1436 ?_
  refine l_iald (pc := 1437) (n := n + 3) C hX hbl hbA hS (add_toInt (d := 3) hi rfl (by omega)) (by omega) dL_law_1437 ?_
  refine lv_aload_n (pc := 1438) hx hb dL_law_1438 rfl (lv_at hl 3 rfl) ?_
  refine lv_iload_n (pc := 1439) hx hb dL_law_1439 rfl (lv_at hl 0 rfl) ?_
  refine lv_iconst (pc := 1440) (v := 4) hx hb dL_law_1440 (by decide) ?_
  refine lv_iadd (pc := 1441) hx hb dL_law_1441 ?_
  refine l_iald (pc := 1442) (n := n + 4) C hX hbl hbA hS (add_toInt (d := 4) hi rfl (by omega)) (by omega) dL_law_1442 ?_
  refine l_virt (R := room_1) (pc := 1443) (st2 := [.int r]) (rest := []) C hW8 hS (c_X8_menBy (K := 200) (by omega) e8) (fun q hq => hq.1) mw_L_165 (kin_0 kdc_0) (Ek_0 kdc_0) rfl ⟨by decide, by decide, by show cells ≤ 600000; omega, by show slots ≤ 7302250; omega⟩ rfl rfl rfl (Nat.le_of_ble_eq_true rfl) hl.1 dL_law_1443 (fun H1 locs1 hW8 f1 z1 hS => ?_)
  have hW9 : WR D ac (z + 80) τ H1 := fun k hk => (hW9 k hk).kept (f1 _ (by have h : k < 22 := hk; show z + 80 + k < H.size; omega) (by have h : k < 22 := hk; rintro ⟨h1, h2⟩; simp only at h2; omega))
  have hsz1 : H1.size = z + (98 + 4 * txn σ') := by rw [z1, hsz]; unfold txn; rw [ek]
  refine lv_aload_n (pc := 1446) hx hb dL_law_1446 rfl (lv_at hl 1 rfl) ?_
  refine lv_aload_n (pc := 1447) hx hb dL_law_1447 rfl (lv_at hl 3 rfl) ?_
  refine lv_iload_n (pc := 1448) hx hb dL_law_1448 rfl (lv_at hl 0 rfl) ?_
  refine lv_iconst (pc := 1449) (v := 1) hx hb dL_law_1449 (by decide) ?_
  refine lv_iadd (pc := 1450) hx hb dL_law_1450 ?_
  refine l_iald (pc := 1451) (n := n + 1) C hX hbl hbA hS (add_toInt (d := 1) hi rfl (by omega)) (by omega) dL_law_1451 ?_
  refine lv_aload_n (pc := 1452) hx hb dL_law_1452 rfl (lv_at hl 3 rfl) ?_
  refine lv_iload_n (pc := 1453) hx hb dL_law_1453 rfl (lv_at hl 0 rfl) ?_
  refine lv_iconst (pc := 1454) (v := 2) hx hb dL_law_1454 (by decide) ?_
  refine lv_iadd (pc := 1455) hx hb dL_law_1455 ?_
  refine l_iald (pc := 1456) (n := n + 2) C hX hbl hbA hS (add_toInt (d := 2) hi rfl (by omega)) (by omega) dL_law_1456 ?_
  refine lv_aload_n (pc := 1457) hx hb dL_law_1457 rfl (lv_at hl 3 rfl) ?_
  refine lv_iload_n (pc := 1458) hx hb dL_law_1458 rfl (lv_at hl 0 rfl) ?_
  refine lv_iconst (pc := 1459) (v := 3) hx hb dL_law_1459 (by decide) ?_
  refine lv_iadd (pc := 1460) hx hb dL_law_1460 ?_
  refine l_iald (pc := 1461) (n := n + 3) C hX hbl hbA hS (add_toInt (d := 3) hi rfl (by omega)) (by omega) dL_law_1461 ?_
  refine lv_aload_n (pc := 1462) hx hb dL_law_1462 rfl (lv_at hl 3 rfl) ?_
  refine lv_iload_n (pc := 1463) hx hb dL_law_1463 rfl (lv_at hl 0 rfl) ?_
  refine lv_iconst (pc := 1464) (v := 4) hx hb dL_law_1464 (by decide) ?_
  refine lv_iadd (pc := 1465) hx hb dL_law_1465 ?_
  refine l_iald (pc := 1466) (n := n + 4) C hX hbl hbA hS (add_toInt (d := 4) hi rfl (by omega)) (by omega) dL_law_1466 ?_
  refine l_virt (R := room_1) (pc := 1467) (st2 := [.int r, .int r]) (rest := [.int r]) C hW9 hS (c_X9_menBy (K := 200) (by omega) e9) (fun q hq => by have := hq.1; show z ≤ q; omega) mw_L_169 inR0 Er_0 rfl ⟨by decide, by decide, by show cells ≤ 600000; omega, by show slots ≤ 7302250; omega⟩ rfl rfl rfl (Nat.le_of_ble_eq_true rfl) hl.1 dL_law_1467 (fun H2 locs2 hW9 f2 z2 hS => ?_)
  have hW8 : WC D ac z σ' H2 := fun k hk => (hW8 k hk).kept (f2 _ (by have h := hk.2; rw [hsz1]; have := ht1; omega) (by have h := inC_ge hk; rintro ⟨h1, h2⟩; omega))
  refine lv_icmp_eq (pc := 1470) (tgt := 1508) hx hb dL_law_1470 (by decide) (fun _ => ?_) (fun hc => absurd rfl hc)
  refine W.widen (k := cells + 4) (n := slots + 483) (by omega) (by omega) ?_
  exact kk _ _ _ _ hRR ⟨hW8, hW9, z2.trans hsz1, hS⟩
theorem law_taken {RR : Mem → Mem → Prop} (hO : OP_taken RR) (hT : ∀ σ τ, RR σ τ → 1 ≤ txn σ) (C : CX code 4 R_law ret D ac p m c s args meth (z, aK, aV) (fun q => z ≤ q)) {b L : Nat} {xs : Nat → Int32} (hX : va_X b L xs s s.heap) (hbl : b < s.heap.size) (hzb : s.heap.size = z) {σ τ : Mem} (hR : RR σ τ) (hW : LWd D ac z s σ τ H locs) {i : Int32} {n : Nat} (hi : i.toInt = (n : Int)) (hn : n + 6 < L) (hL : L ≤ 3584) (hl : lv_has ls 4 [(3, .int i), (2, .ref (z + 80 + 0)), (1, .ref (z + 0)), (0, .ref b)]) (hc : cells + 4 ≤ 600000) (hs : slots + 483 ≤ 7302250)
    (kk : ∀ (σ' τ' : Mem) (H' : Heap) (locs' : List Loc), RR σ' τ' → LWd D ac z s σ' τ' H' locs' → W p l e room_1 s m args below meth c H' locs' (cells + 4) (slots + 483) Q (F0 m 1508 ls [])) : W p l e room_1 s m args below meth c H locs cells slots Q (F0 m 1475 ls []) := by
  have hx := C.1.1
  have hb := C.1.2.1
  have hbA : ¬ (fun q => z ≤ q) b := by show ¬ z ≤ b; omega
  obtain ⟨hW8, hW9, hsz, hS⟩ := hW
  obtain ⟨r, e8, e9, hRR⟩ := hO σ τ (xs (n + 1)) (xs (n + 2)) hR
  have ht0 := hT σ τ hR
  have ht1 := hT σ τ hRR
  refine lv_aload_n (pc := 1475) hx hb dL_law_1475 rfl (lv_at hl 2 rfl) ?_
  refine lv_aload_n (pc := 1476) hx hb dL_law_1476 rfl (lv_at hl 3 rfl) ?_
  refine lv_iload_n (pc := 1477) hx hb dL_law_1477 rfl (lv_at hl 0 rfl) ?_
  refine lv_iconst (pc := 1478) (v := 1) hx hb dL_law_1478 (by decide) ?_
  refine lv_iadd (pc := 1479) hx hb dL_law_1479 ?_
  refine l_iald (pc := 1480) (n := n + 1) C hX hbl hbA hS (add_toInt (d := 1) hi rfl (by omega)) (by omega) dL_law_1480 ?_
  refine lv_aload_n (pc := 1481) hx hb dL_law_1481 rfl (lv_at hl 3 rfl) ?_
  refine lv_iload_n (pc := 1482) hx hb dL_law_1482 rfl (lv_at hl 0 rfl) ?_
  refine lv_iconst (pc := 1483) (v := 2) hx hb dL_law_1483 (by decide) ?_
  refine lv_iadd (pc := 1484) hx hb dL_law_1484 ?_
  refine l_iald (pc := 1485) (n := n + 2) C hX hbl hbA hS (add_toInt (d := 2) hi rfl (by omega)) (by omega) dL_law_1485 ?_
  refine l_virt (R := room_1) (pc := 1486) (st2 := [.int r]) (rest := []) C hW8 hS (c_X8_taken (K := 200) (by omega) e8) (fun q hq => hq.1) mw_L_170 (kin_0 kdc_0) (Ek_0 kdc_0) rfl ⟨by decide, by decide, by show cells ≤ 600000; omega, by show slots ≤ 7302250; omega⟩ rfl rfl rfl (Nat.le_of_ble_eq_true rfl) hl.1 dL_law_1486 (fun H1 locs1 hW8 f1 z1 hS => ?_)
  have hW9 : WR D ac (z + 80) τ H1 := fun k hk => (hW9 k hk).kept (f1 _ (by have h : k < 22 := hk; show z + 80 + k < H.size; omega) (by have h : k < 22 := hk; rintro ⟨h1, h2⟩; simp only at h2; omega))
  have hsz1 : H1.size = z + (98 + 4 * txn σ) := by rw [z1, hsz]
  refine lv_aload_n (pc := 1489) hx hb dL_law_1489 rfl (lv_at hl 1 rfl) ?_
  refine lv_aload_n (pc := 1490) hx hb dL_law_1490 rfl (lv_at hl 3 rfl) ?_
  refine lv_iload_n (pc := 1491) hx hb dL_law_1491 rfl (lv_at hl 0 rfl) ?_
  refine lv_iconst (pc := 1492) (v := 1) hx hb dL_law_1492 (by decide) ?_
  refine lv_iadd (pc := 1493) hx hb dL_law_1493 ?_
  refine l_iald (pc := 1494) (n := n + 1) C hX hbl hbA hS (add_toInt (d := 1) hi rfl (by omega)) (by omega) dL_law_1494 ?_
  refine lv_aload_n (pc := 1495) hx hb dL_law_1495 rfl (lv_at hl 3 rfl) ?_
  refine lv_iload_n (pc := 1496) hx hb dL_law_1496 rfl (lv_at hl 0 rfl) ?_
  refine lv_iconst (pc := 1497) (v := 2) hx hb dL_law_1497 (by decide) ?_
  refine lv_iadd (pc := 1498) hx hb dL_law_1498 ?_
  refine l_iald (pc := 1499) (n := n + 2) C hX hbl hbA hS (add_toInt (d := 2) hi rfl (by omega)) (by omega) dL_law_1499 ?_
  refine l_virt (R := room_1) (pc := 1500) (st2 := [.int r, .int r]) (rest := [.int r]) C hW9 hS (c_X9_taken (K := 200) (by omega) e9) (fun q hq => by have := hq.1; show z ≤ q; omega) mw_L_173 inR0 Er_0 rfl ⟨by decide, by decide, by show cells ≤ 600000; omega, by show slots ≤ 7302250; omega⟩ rfl rfl rfl (Nat.le_of_ble_eq_true rfl) hl.1 dL_law_1500 (fun H2 locs2 hW9 f2 z2 hS => ?_)
  have hW8 : WC D ac z σ H2 := fun k hk => (hW8 k hk).kept (f2 _ (by have h := hk.2; rw [hsz1]; have := ht1; omega) (by have h := inC_ge hk; rintro ⟨h1, h2⟩; omega))
  refine lv_icmp_eq (pc := 1503) (tgt := 1508) hx hb dL_law_1503 (by decide) (fun _ => ?_) (fun hc => absurd rfl hc)
  refine W.widen (k := cells + 4) (n := slots + 483) (by omega) (by omega) ?_
  exact kk _ _ _ _ hRR ⟨hW8, hW9, z2.trans hsz1, hS⟩
end GL
