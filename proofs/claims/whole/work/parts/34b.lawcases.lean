/-! cases of the law -/
section GL
variable {p : Program} {l : Launch} {e : Env} {R : Room} {s : State} {m : MethodId} {args : Array Value} {below : List Frame} {meth : Method} {c : Code} {H : Heap} {locs : List Loc} {cells slots : Nat} {Q : State → Prop}
variable {cc : ByteArray} {nL : Nat} {own : String} {ret : Option FieldType} {D : va_G} {ac : Nat → ClassId} {z idx : Nat} {A : Nat → Prop} {S : SP} {pc : Nat} {ls : Array Slot} {st rest : List Value} {v : Option Value} {aK aV : Nat → Nat}
theorem law_count {RR : Mem → Mem → Prop} (hO : OP_count RR) (hT : ∀ σ τ, RR σ τ → 1 ≤ txn σ) (C : CX code 4 R_law ret D ac p m c s args meth (z, aK, aV) (fun q => z ≤ q)) {b L : Nat} {xs : Nat → Int32} (hX : va_X b L xs s s.heap) (hbl : b < s.heap.size) (hzb : s.heap.size = z) {σ τ : Mem} (hR : RR σ τ) (hW : LWd D ac z s σ τ H locs) {i : Int32} {n : Nat} (hi : i.toInt = (n : Int)) (hn : n + 6 < L) (hL : L ≤ 3584) (hl : lv_has ls 4 [(3, .int i), (2, .ref (z + 80 + 0)), (1, .ref (z + 0)), (0, .ref b)]) (hc : cells + 4 ≤ 600000) (hs : slots + 483 ≤ 7302250)
    (kk : ∀ (σ' τ' : Mem) (H' : Heap) (locs' : List Loc), RR σ' τ' → LWd D ac z s σ' τ' H' locs' → W p l e room_1 s m args below meth c H' locs' (cells + 4) (slots + 483) Q (F0 m 1508 ls [])) : W p l e room_1 s m args below meth c H locs cells slots Q (F0 m 200 ls []) := by
  have hx := C.1.1
  have hb := C.1.2.1
  have hbA : ¬ (fun q => z ≤ q) b := by show ¬ z ≤ b; omega
  obtain ⟨hW8, hW9, hsz, hS⟩ := hW
  obtain ⟨r, e8, e9, hRR⟩ := hO σ τ (xs (n + 1)) hR
  have ht0 := hT σ τ hR
  have ht1 := hT σ τ hRR
  refine lv_aload_n (pc := 200) hx hb dL_law_200 rfl (lv_at hl 2 rfl) ?_
  refine lv_aload_n (pc := 201) hx hb dL_law_201 rfl (lv_at hl 3 rfl) ?_
  refine lv_iload_n (pc := 202) hx hb dL_law_202 rfl (lv_at hl 0 rfl) ?_
  refine lv_iconst (pc := 203) (v := 1) hx hb dL_law_203 (by decide) ?_
  refine lv_iadd (pc := 204) hx hb dL_law_204 ?_
  refine l_iald (pc := 205) (n := n + 1) C hX hbl hbA hS (add_toInt (d := 1) hi rfl (by omega)) (by omega) dL_law_205 ?_
  refine l_virt (R := room_1) (pc := 206) (st2 := [.int r]) (rest := []) C hW8 hS (c_X8_count (K := 200) (by omega) e8) (fun q hq => hq.1) mw_L_13 (kin_0 kdc_0) (Ek_0 kdc_0) rfl ⟨by decide, by decide, by show cells ≤ 600000; omega, by show slots ≤ 7302250; omega⟩ rfl rfl rfl (Nat.le_of_ble_eq_true rfl) hl.1 dL_law_206 (fun H1 locs1 hW8 f1 z1 hS => ?_)
  have hW9 : WR D ac (z + 80) τ H1 := fun k hk => (hW9 k hk).kept (f1 _ (by have h : k < 22 := hk; show z + 80 + k < H.size; omega) (by have h : k < 22 := hk; rintro ⟨h1, h2⟩; simp only at h2; omega))
  have hsz1 : H1.size = z + (98 + 4 * txn σ) := by rw [z1, hsz]
  refine lv_aload_n (pc := 209) hx hb dL_law_209 rfl (lv_at hl 1 rfl) ?_
  refine lv_aload_n (pc := 210) hx hb dL_law_210 rfl (lv_at hl 3 rfl) ?_
  refine lv_iload_n (pc := 211) hx hb dL_law_211 rfl (lv_at hl 0 rfl) ?_
  refine lv_iconst (pc := 212) (v := 1) hx hb dL_law_212 (by decide) ?_
  refine lv_iadd (pc := 213) hx hb dL_law_213 ?_
  refine l_iald (pc := 214) (n := n + 1) C hX hbl hbA hS (add_toInt (d := 1) hi rfl (by omega)) (by omega) dL_law_214 ?_
  refine l_virt (R := room_1) (pc := 215) (st2 := [.int r, .int r]) (rest := [.int r]) C hW9 hS (c_X9_count (K := 200) (by omega) e9) (fun q hq => by have := hq.1; show z ≤ q; omega) mw_L_17 inR0 Er_0 rfl ⟨by decide, by decide, by show cells ≤ 600000; omega, by show slots ≤ 7302250; omega⟩ rfl rfl rfl (Nat.le_of_ble_eq_true rfl) hl.1 dL_law_215 (fun H2 locs2 hW9 f2 z2 hS => ?_)
  have hW8 : WC D ac z σ H2 := fun k hk => (hW8 k hk).kept (f2 _ (by have h := hk.2; rw [hsz1]; have := ht1; omega) (by have h := inC_ge hk; rintro ⟨h1, h2⟩; omega))
  refine lv_icmp_eq (pc := 218) (tgt := 1508) hx hb dL_law_218 (by decide) (fun _ => ?_) (fun hc => absurd rfl hc)
  refine W.widen (k := cells + 4) (n := slots + 483) (by omega) (by omega) ?_
  exact kk _ _ _ _ hRR ⟨hW8, hW9, z2.trans hsz1, hS⟩
theorem law_feed {RR : Mem → Mem → Prop} (hO : OP_feed RR) (hT : ∀ σ τ, RR σ τ → 1 ≤ txn σ) (C : CX code 4 R_law ret D ac p m c s args meth (z, aK, aV) (fun q => z ≤ q)) {b L : Nat} {xs : Nat → Int32} (hX : va_X b L xs s s.heap) (hbl : b < s.heap.size) (hzb : s.heap.size = z) {σ τ : Mem} (hR : RR σ τ) (hW : LWd D ac z s σ τ H locs) {i : Int32} {n : Nat} (hi : i.toInt = (n : Int)) (hn : n + 6 < L) (hL : L ≤ 3584) (hl : lv_has ls 4 [(3, .int i), (2, .ref (z + 80 + 0)), (1, .ref (z + 0)), (0, .ref b)]) (hc : cells + 4 ≤ 600000) (hs : slots + 483 ≤ 7302250)
    (kk : ∀ (σ' τ' : Mem) (H' : Heap) (locs' : List Loc), RR σ' τ' → LWd D ac z s σ' τ' H' locs' → W p l e room_1 s m args below meth c H' locs' (cells + 4) (slots + 483) Q (F0 m 1508 ls [])) : W p l e room_1 s m args below meth c H locs cells slots Q (F0 m 223 ls []) := by
  have hx := C.1.1
  have hb := C.1.2.1
  have hbA : ¬ (fun q => z ≤ q) b := by show ¬ z ≤ b; omega
  obtain ⟨hW8, hW9, hsz, hS⟩ := hW
  obtain ⟨r, σ', τ', e8, e9, hRR, ek⟩ := hO σ τ (xs (n + 1)) (xs (n + 2)) (xs (n + 3)) (xs (n + 4)) (xs (n + 5)) (xs (n + 6)) hR
  have ht0 := hT σ τ hR
  have ht1 := hT σ' τ' hRR
  refine lv_aload_n (pc := 223) hx hb dL_law_223 rfl (lv_at hl 2 rfl) ?_
  refine lv_aload_n (pc := 224) hx hb dL_law_224 rfl (lv_at hl 3 rfl) ?_
  refine lv_iload_n (pc := 225) hx hb dL_law_225 rfl (lv_at hl 0 rfl) ?_
  refine lv_iconst (pc := 226) (v := 1) hx hb dL_law_226 (by decide) ?_
  refine lv_iadd (pc := 227) hx hb dL_law_227 ?_
  refine l_iald (pc := 228) (n := n + 1) C hX hbl hbA hS (add_toInt (d := 1) hi rfl (by omega)) (by omega) dL_law_228 ?_
  refine lv_aload_n (pc := 229) hx hb dL_law_229 rfl (lv_at hl 3 rfl) ?_
  refine lv_iload_n (pc := 230) hx hb dL_law_230 rfl (lv_at hl 0 rfl) ?_
  refine lv_iconst (pc := 231) (v := 2) hx hb dL_law_231 (by decide) ?_
  refine lv_iadd (pc := 232) hx hb dL_law_232 ?_
  refine l_iald (pc := 233) (n := n + 2) C hX hbl hbA hS (add_toInt (d := 2) hi rfl (by omega)) (by omega) dL_law_233 ?_
  refine lv_aload_n (pc := 234) hx hb dL_law_234 rfl (lv_at hl 3 rfl) ?_
  refine lv_iload_n (pc := 235) hx hb dL_law_235 rfl (lv_at hl 0 rfl) ?_
  refine lv_iconst (pc := 236) (v := 3) hx hb dL_law_236 (by decide) ?_
  refine lv_iadd (pc := 237) hx hb dL_law_237 ?_
  refine l_iald (pc := 238) (n := n + 3) C hX hbl hbA hS (add_toInt (d := 3) hi rfl (by omega)) (by omega) dL_law_238 ?_
  refine lv_aload_n (pc := 239) hx hb dL_law_239 rfl (lv_at hl 3 rfl) ?_
  refine lv_iload_n (pc := 240) hx hb dL_law_240 rfl (lv_at hl 0 rfl) ?_
  refine lv_iconst (pc := 241) (v := 4) hx hb dL_law_241 (by decide) ?_
  refine lv_iadd (pc := 242) hx hb dL_law_242 ?_
  refine l_iald (pc := 243) (n := n + 4) C hX hbl hbA hS (add_toInt (d := 4) hi rfl (by omega)) (by omega) dL_law_243 ?_
  refine lv_aload_n (pc := 244) hx hb dL_law_244 rfl (lv_at hl 3 rfl) ?_
  refine lv_iload_n (pc := 245) hx hb dL_law_245 rfl (lv_at hl 0 rfl) ?_
  refine lv_iconst (pc := 246) (v := 5) hx hb dL_law_246 (by decide) ?_
  refine lv_iadd (pc := 247) hx hb dL_law_247 ?_
  refine l_iald (pc := 248) (n := n + 5) C hX hbl hbA hS (add_toInt (d := 5) hi rfl (by omega)) (by omega) dL_law_248 ?_
  refine lv_aload_n (pc := 249) hx hb dL_law_249 rfl (lv_at hl 3 rfl) ?_
  refine lv_iload_n (pc := 250) hx hb dL_law_250 rfl (lv_at hl 0 rfl) ?_
  refine lv_bipush (pc := 251) (v := 6) hx hb dL_law_251 (by decide) ?_
  refine lv_iadd (pc := 253) hx hb dL_law_253 ?_
  refine l_iald (pc := 254) (n := n + 6) C hX hbl hbA hS (add_toInt (d := 6) hi rfl (by omega)) (by omega) dL_law_254 ?_
  refine l_virt (R := room_1) (pc := 255) (st2 := [.int r]) (rest := []) C hW8 hS (c_X8_feed (K := 200) (by omega) e8) (fun q hq => hq.1) mw_L_18 (kin_0 kdc_0) (Ek_0 kdc_0) rfl ⟨by decide, by decide, by show cells ≤ 600000; omega, by show slots ≤ 7302250; omega⟩ rfl rfl rfl (Nat.le_of_ble_eq_true rfl) hl.1 dL_law_255 (fun H1 locs1 hW8 f1 z1 hS => ?_)
  have hW9 : WR D ac (z + 80) τ H1 := fun k hk => (hW9 k hk).kept (f1 _ (by have h : k < 22 := hk; show z + 80 + k < H.size; omega) (by have h : k < 22 := hk; rintro ⟨h1, h2⟩; simp only at h2; omega))
  have hsz1 : H1.size = z + (98 + 4 * txn σ') := by rw [z1, hsz]; unfold txn; rw [ek]
  refine lv_aload_n (pc := 258) hx hb dL_law_258 rfl (lv_at hl 1 rfl) ?_
  refine lv_aload_n (pc := 259) hx hb dL_law_259 rfl (lv_at hl 3 rfl) ?_
  refine lv_iload_n (pc := 260) hx hb dL_law_260 rfl (lv_at hl 0 rfl) ?_
  refine lv_iconst (pc := 261) (v := 1) hx hb dL_law_261 (by decide) ?_
  refine lv_iadd (pc := 262) hx hb dL_law_262 ?_
  refine l_iald (pc := 263) (n := n + 1) C hX hbl hbA hS (add_toInt (d := 1) hi rfl (by omega)) (by omega) dL_law_263 ?_
  refine lv_aload_n (pc := 264) hx hb dL_law_264 rfl (lv_at hl 3 rfl) ?_
  refine lv_iload_n (pc := 265) hx hb dL_law_265 rfl (lv_at hl 0 rfl) ?_
  refine lv_iconst (pc := 266) (v := 2) hx hb dL_law_266 (by decide) ?_
  refine lv_iadd (pc := 267) hx hb dL_law_267 ?_
  refine l_iald (pc := 268) (n := n + 2) C hX hbl hbA hS (add_toInt (d := 2) hi rfl (by omega)) (by omega) dL_law_268 ?_
  refine lv_aload_n (pc := 269) hx hb dL_law_269 rfl (lv_at hl 3 rfl) ?_
  refine lv_iload_n (pc := 270) hx hb dL_law_270 rfl (lv_at hl 0 rfl) ?_
  refine lv_iconst (pc := 271) (v := 3) hx hb dL_law_271 (by decide) ?_
  refine lv_iadd (pc := 272) hx hb dL_law_272 ?_
  refine l_iald (pc := 273) (n := n + 3) C hX hbl hbA hS (add_toInt (d := 3) hi rfl (by omega)) (by omega) dL_law_273 ?_
  refine lv_aload_n (pc := 274) hx hb dL_law_274 rfl (lv_at hl 3 rfl) ?_
  refine lv_iload_n (pc := 275) hx hb dL_law_275 rfl (lv_at hl 0 rfl) ?_
  refine lv_iconst (pc := 276) (v := 4) hx hb dL_law_276 (by decide) ?_
  refine lv_iadd (pc := 277) hx hb dL_law_277 ?_
  refine l_iald (pc := 278) (n := n + 4) C hX hbl hbA hS (add_toInt (d := 4) hi rfl (by omega)) (by omega) dL_law_278 ?_
  refine lv_aload_n (pc := 279) hx hb dL_law_279 rfl (lv_at hl 3 rfl) ?_
  refine lv_iload_n (pc := 280) hx hb dL_law_280 rfl (lv_at hl 0 rfl) ?_
  refine lv_iconst (pc := 281) (v := 5) hx hb dL_law_281 (by decide) ?_
  refine lv_iadd (pc := 282) hx hb dL_law_282 ?_
  refine l_iald (pc := 283) (n := n + 5) C hX hbl hbA hS (add_toInt (d := 5) hi rfl (by omega)) (by omega) dL_law_283 ?_
  refine lv_aload_n (pc := 284) hx hb dL_law_284 rfl (lv_at hl 3 rfl) ?_
  refine lv_iload_n (pc := 285) hx hb dL_law_285 rfl (lv_at hl 0 rfl) ?_
  refine lv_bipush (pc := 286) (v := 6) hx hb dL_law_286 (by decide) ?_
  refine lv_iadd (pc := 288) hx hb dL_law_288 ?_
  refine l_iald (pc := 289) (n := n + 6) C hX hbl hbA hS (add_toInt (d := 6) hi rfl (by omega)) (by omega) dL_law_289 ?_
  refine l_virt (R := room_1) (pc := 290) (st2 := [.int r, .int r]) (rest := [.int r]) C hW9 hS (c_X9_feed (K := 200) (by omega) e9) (fun q hq => by have := hq.1; show z ≤ q; omega) mw_L_22 inR0 Er_0 rfl ⟨by decide, by decide, by show cells ≤ 600000; omega, by show slots ≤ 7302250; omega⟩ rfl rfl rfl (Nat.le_of_ble_eq_true rfl) hl.1 dL_law_290 (fun H2 locs2 hW9 f2 z2 hS => ?_)
  have hW8 : WC D ac z σ' H2 := fun k hk => (hW8 k hk).kept (f2 _ (by have h := hk.2; rw [hsz1]; have := ht1; omega) (by have h := inC_ge hk; rintro ⟨h1, h2⟩; omega))
  refine lv_icmp_eq (pc := 293) (tgt := 1508) hx hb dL_law_293 (by decide) (fun _ => ?_) (fun hc => absurd rfl hc)
  refine W.widen (k := cells + 4) (n := slots + 483) (by omega) (by omega) ?_
  exact kk _ _ _ _ hRR ⟨hW8, hW9, z2.trans hsz1, hS⟩
end GL
