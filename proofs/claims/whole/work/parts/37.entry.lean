/-! FROM THE ENTRY: printed by wip/whole/gen_end.py -/
theorem txn_s0 : txn s0 = 1 := by decide +kernel
theorem law_entry {RR : Mem → Mem → Prop} (hO : OPS RR) (hT : ∀ σ τ, RR σ τ → 1 ≤ txn σ) {r : Int32} {t0 : Mem} (hT0 : f_X9_text r0 = some (r, t0)) (hR0 : RR s0 t0) {p : Program} {e : Env} {s : State} {m : MethodId} {below : List Frame} {meth : Method} {c : Code} (l : Launch) {b L : Nat} {xs : Nat → Int32} (hL : L ≤ 3584) (C0 : lw_At p s m meth c b L xs) : W p l e room_1 s m #[Value.ref b] below meth c s.heap [] 0 0 (lw_Z below #[Value.ref b] s) (entryFrame m ([Value.ref b] : List Value).toArray 4) := by
  obtain ⟨hx, hb, hr, hml, hown, hts, hX, hbl, hlocks, hgv⟩ := id C0
  obtain ⟨D, ac, hK⟩ := start_K hts
  obtain ⟨aK, aV, hSX⟩ := start_SX hts hgv
  have hTB : ∀ w ∈ TB, w.before #[Value.ref b] s = true := fun w hw => hts w (List.mem_filter.mp hw).1
  obtain ⟨z, hz⟩ : ∃ z, z = s.heap.size := ⟨_, rfl⟩
  rw [← hz] at hSX
  have C : CX code 4 R_law ret D ac p m c s #[Value.ref b] meth (z, aK, aV) (fun q => z ≤ q) := ⟨⟨hx, hb, hml, hown, hTB⟩, hr, hlocks, hK, hSX, fun q h => h⟩
  have hl := lv_entry ([.ref b]) (n := 4) (Nat.le_of_ble_eq_true rfl)
  rw [lg_entry_eq]
  generalize (lg_sl ([.ref b]) ++ List.replicate (4 - (lg_sl ([.ref b])).length) Slot.unset).toArray = ls at hl ⊢
  replace hl : lv_has ls 4 [(0, .ref b)] := hl
  have hS : va_S (fun q => z ≤ q) s.heap s.heap [] := va_S.rf
  refine r_new (pc := 0) (ci := 8) (N := 10) C hS tyX8 rfl lays_X8 tyX8_ok [.null, .null, .null, .null, .null, .int 0, .null, .null, .null, .null] (fun j hj => by match j, hj with | 0, _ => rfl | 1, _ => rfl | 2, _ => rfl | 3, _ => rfl | 4, _ => rfl | 5, _ => rfl | 6, _ => rfl | 7, _ => rfl | 8, _ => rfl | 9, _ => rfl) cl_L_7 hz.symm (Nat.le_of_ble_eq_true rfl) (Nat.le_of_ble_eq_true rfl) dL_law_0 (fun H1 n1 z1 o1 hS => ?_)
  refine lv_dup (pc := 3) hx hb dL_law_3 rfl ?_
  have hWg : Wg D z 1 (fun _ => .inr (8, [.null, .null, .null, .null, .null, .int 0, .null, .null, .null, .null])) H1 := ⟨z1, fun q hq => by
    have : q = 0 := by omega
    subst this
    exact n1⟩
  refine t_spec (R := room_1) (pc := 4) (b := z + 0) (rest := [.ref (z + 0)]) (As := []) (Wa := Wg D z 1 _) (Wb := Wg D z 80 (Ec ac z s0)) (A' := Ac z) C hWg hS (a_X8_0 (K := 200) (by omega) rfl) (fun q hq => hq.1) mi_L_9 ⟨by decide, by decide, by decide, by decide⟩ rfl rfl (Nat.le_of_ble_eq_true rfl) hl.1 dL_law_4 (fun H2 locs2 hN2 f2 hS => ?_)
  refine lv_astore_n (pc := 7) (lv' := [(1, .ref (z + 0)), (0, .ref b)]) hx hb dL_law_7 rfl hl (by decide) rfl (fun ls hl => ?_)
  have lt80 : ∀ k, inC s0 k → k < 80 := fun k hk => by
    have h1 := inC_ge hk
    have h2 := hk.2
    rw [txn_s0] at h2
    omega
  have hW8 : WC D ac z s0 H2 := fun k hk => hN2.2 k (lt80 k hk)
  refine r_new (pc := 8) (ci := 9) (N := 48) C hS tyX9 rfl lays_X9 tyX9_ok [.int 0, .null, .null, .null, .int 0, .null, .int 0, .null, .int 0, .null, .null, .int 0, .int 0, .int 0, .int 0, .int 0, .int 0, .int 0, .null, .null, .null, .null, .null, .int 0, .int 0, .int 0, .int 0, .null, .null, .int 0, .int 0, .int 0, .null, .null, .int 0, .int 0, .int 0, .int 0, .int 0, .null, .int 0, .null, .null, .int 0, .int 0, .null, .int 0, .null] (fun j hj => by match j, hj with | 0, _ => rfl | 1, _ => rfl | 2, _ => rfl | 3, _ => rfl | 4, _ => rfl | 5, _ => rfl | 6, _ => rfl | 7, _ => rfl | 8, _ => rfl | 9, _ => rfl | 10, _ => rfl | 11, _ => rfl | 12, _ => rfl | 13, _ => rfl | 14, _ => rfl | 15, _ => rfl | 16, _ => rfl | 17, _ => rfl | 18, _ => rfl | 19, _ => rfl | 20, _ => rfl | 21, _ => rfl | 22, _ => rfl | 23, _ => rfl | 24, _ => rfl | 25, _ => rfl | 26, _ => rfl | 27, _ => rfl | 28, _ => rfl | 29, _ => rfl | 30, _ => rfl | 31, _ => rfl | 32, _ => rfl | 33, _ => rfl | 34, _ => rfl | 35, _ => rfl | 36, _ => rfl | 37, _ => rfl | 38, _ => rfl | 39, _ => rfl | 40, _ => rfl | 41, _ => rfl | 42, _ => rfl | 43, _ => rfl | 44, _ => rfl | 45, _ => rfl | 46, _ => rfl | 47, _ => rfl | (q + 48), h => exact absurd h (by omega)) cl_L_10 hN2.1 (by decide) (by decide) dL_law_8 (fun H3 n3 z3 o3 hS => ?_)
  have hW8 : WC D ac z s0 H3 := fun k hk => (hW8 k hk).kept (o3 _ (by have := lt80 k hk; omega))
  refine lv_dup (pc := 11) hx hb dL_law_11 rfl ?_
  have hWg : Wg D (z + 80) 1 (fun _ => .inr (9, [.int 0, .null, .null, .null, .int 0, .null, .int 0, .null, .int 0, .null, .null, .int 0, .int 0, .int 0, .int 0, .int 0, .int 0, .int 0, .null, .null, .null, .null, .null, .int 0, .int 0, .int 0, .int 0, .null, .null, .int 0, .int 0, .int 0, .null, .null, .int 0, .int 0, .int 0, .int 0, .int 0, .null, .int 0, .null, .null, .int 0, .int 0, .null, .int 0, .null])) H3 := ⟨z3, fun q hq => by
    have : q = 0 := by omega
    subst this
    exact n3⟩
  refine t_spec (R := room_1) (pc := 12) (b := z + 80 + 0) (rest := [.ref (z + 80 + 0)]) (As := []) (Wa := Wg D (z + 80) 1 _) (Wb := Wg D (z + 80) 22 (Er ac (z + 80) t0)) (A' := Ar (z + 80)) C hWg hS (a_X9_0 (K := 200) (by omega) hT0 rfl) (fun q hq => by have := hq.1; show z ≤ q; omega) mi_L_12 ⟨by decide, by decide, by decide, by decide⟩ rfl rfl (Nat.le_of_ble_eq_true rfl) hl.1 dL_law_12 (fun H4 locs4 hN4 f4 hS => ?_)
  refine lv_astore_n (pc := 15) (lv' := [(2, .ref (z + 80 + 0)), (1, .ref (z + 0)), (0, .ref b)]) hx hb dL_law_15 rfl hl (by decide) rfl (fun ls hl => ?_)
  refine lv_iconst (pc := 16) (v := 0) hx hb dL_law_16 (by decide) ?_
  refine lv_istore_n (pc := 17) (lv' := [(3, .int 0), (2, .ref (z + 80 + 0)), (1, .ref (z + 0)), (0, .ref b)]) hx hb dL_law_17 rfl hl (by decide) rfl (fun ls hl => ?_)
  have hW8 : WC D ac z s0 H4 := fun k hk => (hW8 k hk).kept (f4 _ (by have := lt80 k hk; rw [z3]; omega) (by have := lt80 k hk; rintro ⟨h1, h2⟩; omega))
  have hW9 : WR D ac (z + 80) t0 H4 := fun k hk => hN4.2 k hk
  refine W.widen (k := 200 + 4 * 0) (n := 20000 + 483 * 0) (by decide) (by decide) ?_
  exact law_loop hO hT C hX hbl hz.symm hL (L + 1) 0 (by omega) s0 t0 H4 _ ls 0 rfl (by omega) hR0 ⟨hW8, hW9, by rw [hN4.1, txn_s0], hS⟩ hl
