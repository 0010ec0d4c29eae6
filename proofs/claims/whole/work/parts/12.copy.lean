section
variable {p : Program} {l : Launch} {e : Env} {R : Room} {s : State} {m : MethodId} {args : Array Value} {below : List Frame} {meth : Method} {c : Code} {H : Heap} {locs : List Loc} {cells slots : Nat} {Q : State → Prop}
variable {cc : ByteArray} {nL : Nat} {own : String} {ret : Option FieldType} {D : va_G} {ac : Nat → ClassId} {z : Nat} {σ σ1 : Mem} {pc : Nat} {ls : Array Slot} {st rest : List Value} {v : Option Value} {k idx : Nat} {S : SP}
theorem ia_copy (C : CX cc nL own ret D ac p m c s args meth S (Ac z)) (hW : WC D ac z σ H) (hS : va_S (Ac z) s.heap H locs) {a b : Nat} (hka : kd a = 3) (hla : al a = 40) (hkb : kd b = 3) (hlb : al b = 40) {i j n : Int32} (hc : acok i j n 40 40 = true) (hsz : ls.size = nL)
    (hR : 1 ≤ R.frames ∧ (rest.map fun v => v.category).sum + (nativeFrameWords "java/lang/System" "arraycopy" 5 + 11) ≤ R.locals) (hl : Cond.methodLink own idx arraycopyName ∈ TB ∧ Cond.native arraycopyName ∈ TB ∧ Cond.static arraycopyName ∈ TB ∧ Cond.initialized "java/lang/System" ∈ TB) (hd : decode cc pc = .ok (.invokestatic idx, 3))
    (kk : ∀ (H : Heap) (locs : List Loc), WC D ac z (mcp σ a i.toNatClampNeg b j.toNatClampNeg n.toNatClampNeg) H → va_S (Ac z) s.heap H locs → W p l e R s m args below meth c H locs cells slots Q (F0 m (pc + 3) ls rest)) : W p l e R s m args below meth c H locs cells slots Q (F0 m pc ls (.int n :: .int j :: .ref (z + b) :: .int i :: .ref (z + a) :: rest)) := by
  obtain ⟨⟨hx, hb, hml, ho, hts⟩, hr, hlk, hK, -, -⟩ := C
  simp only [acok, Bool.and_eq_true, decide_eq_true_eq] at hc
  obtain ⟨⟨⟨⟨c1, c2⟩, c3⟩, c4⟩, c5⟩ := hc
  have ha : H[z + a]? = some (vp_cell (ac 0) (40, .inl (σ a))) := by
    have := hW a (kin_3 hka)
    rw [Ek_3 hka, hla] at this
    exact this
  have hbb : H[z + b]? = some (vp_cell (ac 0) (40, .inl (σ b))) := by
    have := hW b (kin_3 hkb)
    rw [Ek_3 hkb, hlb] at this
    exact this
  obtain ⟨-, k0, hk0, cm0, hkk0⟩ := (hK.2 0 _ rfl).1 40 (fun j => .int (σ a j))
  intro T hT X
  have sz : ∀ k : Nat, (vp_cell (ac 0) (40, .inl (σ k))).slots.size = 40 := fun k => by rw [vp_cell_i, arrV_size]
  obtain ⟨vm', X', step⟩ := X.arraycopy hx ho (hts _ hl.1) (hts _ hl.2.1) (hts _ hl.2.2.1) (hts _ hl.2.2.2) (src := z + a) (dst := z + b) (cs := vp_cell (ac 0) (40, .inl (σ a))) (cd := vp_cell (ac 0) (40, .inl (σ b))) (srcPos := i) (destPos := j) (n := n) (by rw [hT]; exact ha) (by rw [hT]; exact hbb)
    (fun _ h => by cases h) (fun _ h => by cases h) (fun h => by cases h) (fun h => by cases h) hk0 hk0 hkk0 hkk0 (by simp [refKind]) (Int32.not_lt.mpr c1) (Int32.not_lt.mpr c2) (Int32.not_lt.mpr c3)
    (by rw [nn_int c1, nn_int c3, sz]; omega) (by rw [nn_int c2, nn_int c3, sz]; omega)
    (fun vm₁ _ q hq => by
      have e : (vp_cell (ac 0) (40, .inl (σ a))).slots.getD (i.toNatClampNeg + q) .null = .int (σ a (i.toNatClampNeg + q)) := by
        rw [vp_cell_i, Array.getD_eq_getD_getElem?, arrV_read _ _ (by omega)]
        rfl
      rw [e]
      exact ⟨rfl, trivial⟩)
    (g := F0 m pc ls (.int n :: .int j :: .ref (z + b) :: .int i :: .ref (z + a) :: rest)) rfl (by rw [hml]; exact hsz) (rest := rest) rfl (by rw [hb]; exact hd) hR.1 (by have h2 := hR.2; show 2 * 0 + _ + _ ≤ _; omega)
  have e1 : copied (vp_cell (ac 0) (40, .inl (σ a))) (vp_cell (ac 0) (40, .inl (σ b))) i j n = vp_cell (ac 0) (40, .inl (va_cpy (σ a) (σ b) i.toNatClampNeg j.toNatClampNeg n.toNatClampNeg)) := va_copied (fun x => .int x) (ac 0) (ac 0) (σ a) (σ b) c4
  rw [e1] at X' step
  have hlt : z + b < H.size := (Array.getElem?_eq_some_iff.mp hbb).1
  have oq : ∀ (x : Cell) (q : Nat), q ≠ z + b → (H.setIfInBounds (z + b) x)[q]? = H[q]? := fun x q hq => by simp [Array.getElem?_setIfInBounds, Ne.symm hq]
  obtain ⟨t, a1, b1⟩ := kk (H.setIfInBounds (z + b) (vp_cell (ac 0) (40, .inl (va_cpy (σ a) (σ b) i.toNatClampNeg j.toNatClampNeg n.toNatClampNeg)))) _ (fun q hq => by
      by_cases hqb : q = b
      · subst hqb
        rw [Ek_3 hkb, hlb]
        show _ = some (vp_cell _ _)
        rw [show mcp σ a i.toNatClampNeg q j.toNatClampNeg n.toNatClampNeg q = va_cpy (σ a) (σ q) i.toNatClampNeg j.toNatClampNeg n.toNatClampNeg by funext x; simp [mcp]]
        simp [Array.getElem?_setIfInBounds, hlt]
      · have hb1 : b ≠ 1 := ne1 hkb (by decide)
        have e1 : mcp σ a i.toNatClampNeg b j.toNatClampNeg n.toNatClampNeg q = σ q := by funext x; simp [mcp, hqb]
        have e2 : txn (mcp σ a i.toNatClampNeg b j.toNatClampNeg n.toNatClampNeg) = txn σ := by unfold txn mcp; rw [if_neg (Ne.symm hb1)]
        have e3 : Ec ac z (mcp σ a i.toNatClampNeg b j.toNatClampNeg n.toNatClampNeg) q = Ec ac z σ q := by unfold Ec alen; rw [e1, e2]
        rw [e3]
        refine (hW q (by unfold inC at hq ⊢; rw [e2] at hq; exact hq)).kept (oq _ (z + q) (fun h => hqb (Nat.add_left_cancel h))))
    (⟨by simp; exact hS.1, fun q g1 g2 => by
      rw [oq _ q (fun h => g2 (by rw [h]; exact kA_3 hkb))]
      exact hS.2.1 q g1 g2, fun q hq => by
      rcases List.mem_append.mp hq with h | h
      · exact hS.2.2 q h
      · obtain ⟨y, -, hy⟩ := List.mem_map.mp h
        rw [← hy]
        exact kA_3 hkb⟩) _ (by rw [← hT]; rfl) X'
  exact ⟨t, step t a1, b1⟩
end
