/-! MAKERS: a world that grows: cells 0 .. n from z on are as a function says -/
def Wg (D : va_G) (z n : Nat) (w : Nat → va_E) (H : Heap) : Prop := H.size = z + n ∧ ∀ k : Nat, k < n → va_at D cls (z + k, w k) H
def PreA (D : va_G) (z : Nat) (ac : Nat → ClassId) (S : SP) (vs : List Value) (n : Nat) (w : Nat → va_E) : Array Value → State → Prop := va_Pc vs (fun U => Wg D z n w U.heap ∧ va_K D cls (tysA ac) U ∧ SX S U)
def QA (D : va_G) (z : Nat) (v : Option Value) (n : Nat) (w : Nat → va_E) (A : Nat → Prop) : Array Value → State → Outcome → State → Prop := fun _ st oc t => (oc = .returned v ∧ Wg D z n w t.heap) ∧ va_F A st t
def MA (l : Launch) (D : va_G) (z : Nat) (ac : Nat → ClassId) (S : SP) (A : Nat → Prop) (y : MethodName) (cc : ByteArray) (nL : Nat) (ret : Option FieldType) (K mc ms : Nat) (vs : List Value) (n : Nat) (w : Nat → va_E) (v : Option Value) (n1 : Nat) (w1 : Nat → va_E) : Prop :=
  Met l y (wl y cc nL ret) (rma K mc ms) (PreA D z ac S vs n w) (QA D z v n1 w1 A) mc ms A
theorem PreA.blind {D : va_G} {z : Nat} {ac : Nat → ClassId} {S : SP} {vs : List Value} {n : Nat} {w : Nat → va_E} : FrameBlind (PreA D z ac S vs n w) := by
  intro a U g mk q
  obtain ⟨q0, q1, q2, q3⟩ := q
  exact ⟨q0, q1, va_K.moved (u := U) (U := U.calling g mk a) (Vm.Alike.refl U.vm) q2, SX.step (s := U) (U := U.calling g mk a) (State.WarmedH.refl U) (fun _ _ _ => rfl) q3⟩
/-- two worlds as one: two functions of the cells below n, by a memory's two marks -/
def E2 (w w1 : Nat → va_E) : Mem → Nat → va_E := fun σ k => if σ 0 0 = 0 then w k else w1 k
def P2 (n : Nat) : Mem → Nat → Prop := fun _ k => k < n
theorem Wg.wd {D : va_G} {z n : Nat} {w w1 : Nat → va_E} {H : Heap} (h : Wg D z n w H) : Wd D (E2 w w1) (P2 n) z (fun _ _ => 0) H := fun k hk => by
  have := h.2 k hk
  unfold E2
  rw [if_pos rfl]
  exact this
theorem Wd.wg {D : va_G} {z n : Nat} {w w1 : Nat → va_E} {H : Heap} (hz : H.size = z + n) (h : Wd D (E2 w w1) (P2 n) z (fun _ _ => 1) H) : Wg D z n w1 H := ⟨hz, fun k hk => by
  have := h k hk
  unfold E2 at this
  rw [if_neg (by decide)] at this
  exact this⟩
section GM
variable {p : Program} {l : Launch} {e : Env} {R : Room} {s : State} {m : MethodId} {args : Array Value} {below : List Frame} {meth : Method} {c : Code} {H : Heap} {locs : List Loc} {cells slots : Nat} {Q : State → Prop}
variable {cc : ByteArray} {nL : Nat} {own : String} {ret : Option FieldType} {D : va_G} {ac : Nat → ClassId} {z n n1 idx : Nat} {w w1 : Nat → va_E} {A : Nat → Prop} {S : SP} {pc : Nat} {ls : Array Slot} {st rest : List Value} {v : Option Value}
theorem MA.of {y : MethodName} {K mc ms : Nat} {vs : List Value} (hA : ∀ q, A q → S.1 ≤ q) (hy : plainFor y = true) (hn : (lg_sl vs).length ≤ nL)
    (body : ∀ (p : Program) (e : Env) (s : State) (m : MethodId) (below : List Frame) (meth : Method) (c : Code) (args : Array Value), CX cc nL y.cls ret D ac p m c s args meth S A → meth.name = y.name → Wg D z n w s.heap → ∀ ls, lv_has ls nL (lv_args 0 vs) →
      W p l e (rma K mc ms) s m args below meth c s.heap [] 0 0 (MQ below (QA D z v n1 w1 A) args s mc ms A) (F0 m 0 ls [])) : MA l D z ac S A y cc nL ret K mc ms vs n w v n1 w1 := by
  unfold MA Met
  refine MetFree.of_bodySF (code := cc) (maxLocals := nL) (ret := ret) hy (fun args s m h hn => ?_) (fun p e s m args below meth c s₁ B hml hv _ => ?_)
  · obtain ⟨meth, c, h1, h2, h3, h4, h5, h6, -, -⟩ := Cond.code_spec hn (atoms_spec (ws := wl y cc nL ret) h _ List.mem_cons_self)
    exact ⟨meth, c, h1, h2, h3, h4, h5, h6⟩
  · obtain ⟨rfl, hW, hK, hSX⟩ := hv
    have hts0 := atoms_spec (ws := wl y cc nL ret) B.pre
    have hl := lv_entry vs (n := nL) hn
    have hh0 : s₁.heap = s.heap := by rw [B.state]; rfl
    have hk := body p e s m below meth c _ ⟨⟨B.exec, B.bytes, hml, findClass_of_methodNamed B.named, fun w hw => hts0 w (List.mem_cons_of_mem _ hw)⟩, B.returns, B.notSynchronized, hK, hSX, hA⟩ (name_of_methodNamed B.named B.method).1 hW _ hl
    rw [← lg_entry_eq] at hk
    obtain ⟨t, a1, o, b1, b2, b3⟩ := hk s₁ hh0 (Stand.of_body B)
    exact ⟨t, o, a1, b1, b2, ⟨b3.1, b3.2⟩⟩
theorem a_get (C : CX cc nL own ret D ac p m c s args meth S A) (hW : Wg D z n w H) {k ci N : Nat} {fs : List Value} {Cn : String} {T : u_T} (hk : k < n) (he : w k = .inr (ci, fs)) (hc : cls[ci]? = some (Cn, T, N)) (hlays : ∀ w ∈ u_ws Cn T N, w ∈ TB) (j : Nat) (hj : j < N) (hl : Cond.fieldLink own idx (T j).1 (T j).2.1 (T j).2.2.1 ∈ TB) {x : Value} (hv : fs[j]? = some x) (hd : decode cc pc = .ok (.getfield idx, 3))
    (kk : W p l e R s m args below meth c H locs cells slots Q (F0 m (pc + 3) ls (x :: rest))) : W p l e R s m args below meth c H locs cells slots Q (F0 m pc ls (.ref (z + k) :: rest)) :=
  g_get C (hW.wd (w1 := w)) (k := k) hk (by unfold E2; rw [if_pos rfl]; exact he) hc hlays j hj hl hv hd kk
theorem a_alen (C : CX cc nL own ret D ac p m c s args meth S A) (hW : Wg D z n w H) {k : Nat} (t0 : Nat) {cA : ClassId} {x : vp_A} {ty : FieldType} (hk : k < n) (he : w k = .inl (cA, x)) (ht : (tysA ac)[t0]? = some (cA, ty)) {v : Int32} (hv : Int32.ofNat x.1 = v) (hd : decode cc pc = .ok (.arraylength, 1))
    (kk : W p l e R s m args below meth c H locs cells slots Q (F0 m (pc + 1) ls (.int v :: rest))) : W p l e R s m args below meth c H locs cells slots Q (F0 m pc ls (.ref (z + k) :: rest)) :=
  g_alen C (hW.wd (w1 := w)) (k := k) t0 hk (by unfold E2; rw [if_pos rfl]; exact he) ht hv hd kk
theorem a_put (C : CX cc nL own ret D ac p m c s args meth S A) (hW : Wg D z n w H) (hS : va_S A s.heap H locs) {k ci N : Nat} {fs : List Value} {Cn : String} {T : u_T} (ty0 : Nat → FieldType) (hk : k < n) (he : w k = .inr (ci, fs)) (hA : A (z + k)) (hc : cls[ci]? = some (Cn, T, N)) (hlays : ∀ w ∈ u_ws Cn T N, w ∈ TB)
    (hty : ∀ k, k < N → parseFieldDescriptor (T k).2.2.1 = some (ty0 k)) (hnm : ∀ a, a < N → ∀ b, b < N → a ≠ b → (T a).2.1 ≠ (T b).2.1) (j : Nat) (hj : j < N) (hl : Cond.fieldLink own idx (T j).1 (T j).2.1 (T j).2.2.1 ∈ TB) (hfin : (T j).2.2.2 = false) {x : Value} (hn : narrow (ty0 j) x = x) (hfit : fits (ty0 j) x = true) (hlen : j < fs.length) (hd : decode cc pc = .ok (.putfield idx, 3))
    (kk : ∀ (H : Heap) (locs : List Loc), Wg D z n (va_up w k (.inr (ci, fs.set j x))) H → va_S A s.heap H locs → W p l e R s m args below meth c H locs cells slots Q (F0 m (pc + 3) ls rest)) : W p l e R s m args below meth c H locs cells slots Q (F0 m pc ls (x :: .ref (z + k) :: rest)) := by
  exact g_putZ C (σ1 := fun _ _ => 1) (hW.wd (w1 := va_up w k (.inr (ci, fs.set j x)))) hS ty0 hk (by unfold E2; rw [if_pos rfl]; exact he) hA hc hlays hty hnm j hj hl hfin hn hfit hlen (by unfold E2 va_up; rw [if_neg (by decide), if_pos rfl]) (fun q h => by unfold E2 va_up; rw [if_neg (by decide), if_neg h, if_pos rfl]) (fun q h => h) hd (fun H' locs' h1 h2 h3 => kk H' locs' (Wd.wg (h3.trans hW.1) h1) h2)
theorem a_iast (C : CX cc nL own ret D ac p m c s args meth S A) (hW : Wg D z n w H) (hS : va_S A s.heap H locs) {k N : Nat} {f : Nat → Int32} (hk : k < n) (he : w k = .inl (ac 0, N, .inl f)) (hA : A (z + k)) {i x : Int32} {j : Nat} (hj : i.toNatClampNeg = j) (hin : vp_in i N) (hd : decode cc pc = .ok (.iastore, 1))
    (kk : ∀ (H : Heap) (locs : List Loc), Wg D z n (va_up w k (.inl (ac 0, N, .inl (upd f j x)))) H → va_S A s.heap H locs → W p l e R s m args below meth c H locs cells slots Q (F0 m (pc + 1) ls rest)) : W p l e R s m args below meth c H locs cells slots Q (F0 m pc ls (.int x :: .int i :: .ref (z + k) :: rest)) := by
  subst hj
  exact g_iastZ C (σ1 := fun _ _ => 1) (hW.wd (w1 := va_up w k (.inl (ac 0, N, .inl (upd f i.toNatClampNeg x))))) hS hk (by unfold E2; rw [if_pos rfl]; exact he) hA hin (by unfold E2 va_up; rw [if_neg (by decide), if_pos rfl]) (fun q h => by unfold E2 va_up; rw [if_neg (by decide), if_neg h, if_pos rfl]) (fun q h => h) hd (fun H' locs' h1 h2 h3 => kk H' locs' (Wd.wg (h3.trans hW.1) h1) h2)
theorem a_putF (C : CX cc nL own ret D ac p m c s args meth S A) (hW : Wg D z n w H) (hS : va_S A s.heap H locs) {k ci N : Nat} {fs : List Value} {Cn : String} {T : u_T} (ty0 : Nat → FieldType) (hk : k < n) (he : w k = .inr (ci, fs)) (hA : A (z + k)) (hc : cls[ci]? = some (Cn, T, N)) (hlays : ∀ w ∈ u_ws Cn T N, w ∈ TB)
    (hty : ∀ k, k < N → parseFieldDescriptor (T k).2.2.1 = some (ty0 k)) (hnm : ∀ a, a < N → ∀ b, b < N → a ≠ b → (T a).2.1 ≠ (T b).2.1) (j : Nat) (hj : j < N) (hl : Cond.fieldLink own idx (T j).1 (T j).2.1 (T j).2.2.1 ∈ TB) (hfin : (T j).2.2.2 = true) (hin2 : meth.name = "<init>") (hdecl : (T j).1 = own) {x : Value} (hn : narrow (ty0 j) x = x) (hfit : fits (ty0 j) x = true) (hlen : j < fs.length) (hd : decode cc pc = .ok (.putfield idx, 3))
    (kk : ∀ (H : Heap) (locs : List Loc), Wg D z n (va_up w k (.inr (ci, fs.set j x))) H → va_S A s.heap H locs → W p l e R s m args below meth c H locs cells slots Q (F0 m (pc + 3) ls rest)) : W p l e R s m args below meth c H locs cells slots Q (F0 m pc ls (x :: .ref (z + k) :: rest)) := by
  obtain ⟨⟨hx, hb, hml, ho, hts⟩, hr, hlk, hK, -, -⟩ := C
  have hap := va_apart (own := own) (D := D) hts hlays ty0 hty hnm hK hc
  have hWk := hW.2 k hk
  rw [he] at hWk
  obtain ⟨r, h1, cell, q1, q2, q3, q4⟩ := hWk
  have hr : r = (Cn, T, N) := Option.some.inj (h1.symm.trans hc)
  subst hr
  obtain ⟨hSl, hfc, kC, hkC, hkind⟩ := hK.1 ci _ hc
  obtain ⟨cf, kf, fi, f, hi, hsl⟩ := hSl j hj
  have hlay := hts _ (hlays _ (u_in_lay hj))
  unfold u_lay at hlay
  rw [if_pos hfin] at hlay
  have hst := (u_facts hfc hkC (u_lays hts hlays hj) hi).1
  have hcf : m.cls = cf := by
    obtain ⟨_, _, c', _, _, _, -, -, hf', -, -, -, hown2, -⟩ := Cond.laysFinal_spec hlay
    have e1 : c' = cf := by have := hi.symm.trans hf'; simp at this; exact this.1.symm
    rw [hdecl] at hown2
    rw [← e1]; exact Option.some.inj (ho.symm.trans hown2)
  have h6 := u_fits hfc hkC hkind (Or.inr hlay) hi (hty j hj) hn hfit
  refine W.putFinK hx hb ho (hts _ hl) hi hst hcf hin2 (by rw [q2]; exact h6) q1 q3 (by rw [hsl]; exact k2_hasslot (q4 j hj)) rfl rfl hd fun H' e1 e2 e3 => ?_
  rw [hsl] at e1 ⊢
  refine kk H' _ ⟨e2.trans hW.1, fun q hq => ?_⟩ (hS.put e2 e3 hA)
  unfold va_up
  by_cases hqk : q = k
  · subst hqk
    rw [if_pos rfl]
    exact ⟨_, hc, t_OB.to (V := updV (vp_V fs) j x) ⟨_, e1, q2, q3, t_set q4 hap hj x⟩ (fun i _ => vp_updV_set hlen x i)⟩
  · rw [if_neg hqk]
    exact (hW.2 q hq).kept (e3 (z + q) (fun h => hqk (Nat.add_left_cancel h)))
theorem a_new (C : CX cc nL own ret D ac p m c s args meth S A) (hW : Wg D z n w H) (hS : va_S A s.heap H locs) {ci N : Nat} {Cn : String} {T : u_T} (ty0 : Nat → FieldType) (hc : cls[ci]? = some (Cn, T, N)) (hlays : ∀ w ∈ u_ws Cn T N, w ∈ TB) (hty : ∀ k, k < N → parseFieldDescriptor (T k).2.2.1 = some (ty0 k)) (fs : List Value) (hfs : ∀ j, j < N → defaultValue (ty0 j) = vp_V fs j)
    (hl : Cond.classLink own idx Cn ∈ TB ∧ Cond.instantiable Cn N ∈ TB ∧ Cond.initialized Cn ∈ TB) (hn1 : n + 1 = n1) (hcells : cells + 1 ≤ R.cells) (hslots : slots + N ≤ R.slots) (hd : decode cc pc = .ok (.new idx, 3))
    (kk : ∀ (H : Heap), Wg D z n1 (va_up w n (.inr (ci, fs))) H → va_S A s.heap H locs → W p l e R s m args below meth c H locs (cells + 1) (slots + N) Q (F0 m (pc + 3) ls (.ref (z + n) :: rest))) : W p l e R s m args below meth c H locs cells slots Q (F0 m pc ls rest) := by
  subst hn1
  obtain ⟨⟨hx, hb, hml, ho, hts⟩, hr, hlk, hK, -, -⟩ := C
  have hKn := hK.1 ci _ hc
  refine W.newcK hx hb ho (hts _ hl.1) (hts _ hl.2.1) (hts _ hl.2.2) rfl hd hcells hslots hKn.2.1 hW.1 fun H1 kC hkC e1 z1 o1 => ?_
  refine kk H1 ⟨by omega, fun q hq => ?_⟩ ⟨Nat.le_trans hS.1 (by have := hW.1; omega), fun x h1 h2 => (o1 x (by have := hS.1; have := hW.1; omega)).trans (hS.2.1 x h1 h2), hS.2.2⟩
  unfold va_up
  by_cases hqn : q = n
  · subst hqn
    rw [if_pos rfl]
    exact ⟨_, hc, (u_born ty0 hts hlays hKn hkC e1 hty).to hfs⟩
  · rw [if_neg hqn]
    exact (hW.2 q (by omega)).kept (o1 (z + q) (by omega))
theorem a_newa (C : CX cc nL own ret D ac p m c s args meth S A) (hW : Wg D z n w H) (hS : va_S A s.heap H locs) {x : Int32} {N : Nat} (ha : Cond.arrayClass .int ∈ TB) (hx0 : ¬ x < 0) (hxN : x.toNatClampNeg = N) (hN : N ≤ 4096) (hn1 : n + 1 = n1) (hcells : cells + 1 ≤ R.cells) (hslots : slots + N ≤ R.slots) (hd : decode cc pc = .ok (.newarray .int, 2))
    (kk : ∀ (H : Heap), Wg D z n1 (va_up w n (.inl (ac 0, N, .inl (fun _ => 0)))) H → va_S A s.heap H locs → W p l e R s m args below meth c H locs (cells + 1) (slots + N) Q (F0 m (pc + 2) ls (.ref (z + n) :: rest))) : W p l e R s m args below meth c H locs cells slots Q (F0 m pc ls (.int x :: rest)) := by
  subst hn1
  obtain ⟨⟨hx, hb, hml, ho, hts⟩, hr, hlk, hK, -, -⟩ := C
  refine va_newaK (atype := .int) hx hb (hts _ ha) rfl hd rfl hx0 hxN (by show N * 4 ≤ _; omega) hcells hslots hW.1 fun H1 cA e1 z1 o1 hAr hNm => ?_
  have hcA : cA = ac 0 := by
    have h2 : s.vm.findClass ("[" ++ FieldType.int.toString) = some (ac 0) := (hK.2 0 _ rfl).2
    exact Option.some.inj (hNm.symm.trans h2)
  subst hcA
  refine kk H1 ⟨by omega, fun q hq => ?_⟩ ⟨Nat.le_trans hS.1 (by have := hW.1; omega), fun x h1 h2 => (o1 x (by have := hS.1; have := hW.1; omega)).trans (hS.2.1 x h1 h2), hS.2.2⟩
  unfold va_up
  by_cases hqn : q = n
  · subst hqn
    rw [if_pos rfl]
    exact e1
  · rw [if_neg hqn]
    exact (hW.2 q (by omega)).kept (o1 (z + q) (by omega))
theorem a_anewa (C : CX cc nL own ret D ac p m c s args meth S A) (hW : Wg D z n w H) (hS : va_S A s.heap H locs) {x : Int32} {N : Nat} (t0 : Nat) {Cn : String} (ht : (tysA ac)[t0]? = some (ac t0, .object Cn)) (hCn : Cn ∈ [RX1, RX7, RX4, RX5]) (hl : Cond.classLink own idx Cn ∈ TB) (hx0 : ¬ x < 0) (hxN : x.toNatClampNeg = N) (hN : N ≤ 4096) (hn1 : n + 1 = n1) (hcells : cells + 1 ≤ R.cells) (hslots : slots + N ≤ R.slots) (hd : decode cc pc = .ok (.anewarray idx, 3))
    (kk : ∀ (H : Heap), Wg D z n1 (va_up w n (.inl (ac t0, N, .inr (.inr (.inr (.inr (fun _ => none))))))) H → va_S A s.heap H locs → W p l e R s m args below meth c H locs (cells + 1) (slots + N) Q (F0 m (pc + 3) ls (.ref (z + n) :: rest))) : W p l e R s m args below meth c H locs cells slots Q (F0 m pc ls (.int x :: rest)) := by
  subst hn1
  subst hxN
  obtain ⟨⟨hx, hb, hml, ho, hts⟩, hr, hlk, hK, hSX, -⟩ := C
  refine W.anew hx hb ho (hts _ hl) (va_AO.use (hSX.2.2.2.2.2 Cn hCn)) rfl hd rfl hx0 (by omega) hcells hslots fun cA kA comp f1 f2 f3 f4 => ?_
  have hcA : cA = ac t0 := by
    obtain ⟨kA', comp', g1, g2, g3, g4⟩ := (hK.2 t0 _ ht).2
    exact Option.some.inj (f1.symm.trans g4)
  subst hcA
  generalize hH1 : H.push ({ cls := ac t0, slots := Array.replicate x.toNatClampNeg .null, vm := .none } : Cell) = H1
  have z1 : H1.size = H.size + 1 := by rw [← hH1, Array.size_push]
  have e1 : H1[H.size]? = some (arrV (ac t0) x.toNatClampNeg (fun _ => .null)) := by rw [← hH1, Array.getElem?_push_size, ← arrV_new]
  have o1 : ∀ q : Nat, q < H.size → H1[q]? = H[q]? := fun q hq => by rw [← hH1, Array.getElem?_push, if_neg (Nat.ne_of_lt hq)]
  have hz := hW.1
  have hg := kk H1 ⟨by omega, fun q hq => by
      unfold va_up
      by_cases hqn : q = n
      · subst hqn
        rw [if_pos rfl]
        rw [hz] at e1
        exact e1
      · rw [if_neg hqn]
        exact (hW.2 q (by omega)).kept (o1 (z + q) (by omega))⟩ ⟨Nat.le_trans hS.1 (by omega), fun x h1 h2 => (o1 x (by have := hS.1; omega)).trans (hS.2.1 x h1 h2), hS.2.2⟩
  rw [hz]
  exact hg
theorem a_aast (C : CX cc nL own ret D ac p m c s args meth S A) (hW : Wg D z n w H) (hS : va_S A s.heap H locs) {k N q0 ci Nf : Nat} (t0 : Nat) {cA : ClassId} {Cn : String} {T : u_T} {fs : List Value} {f : Nat → Option Nat} (hk : k < n) (he : w k = .inl (cA, N, .inr (.inr (.inr (.inr f))))) (hA : A (z + k)) (ht : (tysA ac)[t0]? = some (cA, .object Cn)) (hq0 : q0 < n) (hv : w q0 = .inr (ci, fs)) (hc : cls[ci]? = some (Cn, T, Nf)) {i : Int32} {j : Nat} (hj : i.toNatClampNeg = j) (hin : vp_in i N) (hd : decode cc pc = .ok (.aastore, 1))
    (kk : ∀ (H : Heap) (locs : List Loc), Wg D z n (va_up w k (.inl (cA, N, .inr (.inr (.inr (.inr (va_up f j (some (z + q0)))))))))  H → va_S A s.heap H locs → W p l e R s m args below meth c H locs cells slots Q (F0 m (pc + 1) ls rest)) : W p l e R s m args below meth c H locs cells slots Q (F0 m pc ls (.ref (z + q0) :: .int i :: .ref (z + k) :: rest)) := by
  subst hj
  obtain ⟨⟨hx, hb, hml, ho, hts⟩, hr, hlk, hK, -, -⟩ := C
  have hlt : i.toNatClampNeg < N := Nat.not_le.mp fun q => hin (Or.inr q)
  have h0 : ¬ i < 0 := fun q => hin (Or.inl q)
  have hWq := hW.2 q0 hq0
  rw [hv] at hWq
  obtain ⟨r', hr', cellV, g1, g2, g3, -⟩ := hWq
  have hcls := (hK.1 ci _ hc).2
  obtain ⟨kA, comp, k1, k2, k3, -⟩ := (hK.2 t0 _ ht).2
  have hcomp : comp = D.1 ci := Option.some.inj (k3.symm.trans hcls.1)
  subst hcomp
  obtain ⟨kC, hkC, -⟩ := hcls.2
  have hWk := hW.2 k hk
  rw [he] at hWk
  refine W.aast hx hb hWk (fun q h => by cases h) (fun h => by cases h) k1 k2 rfl hkC ⟨h0, by show _ < (arrV _ _ _).slots.size; rw [arrV_size]; exact hlt⟩ g1 (fun q h => by rw [g3] at h; cases h) (by rw [g2]; exact hkC) (by rw [g2]; exact va_assign hcls) rfl rfl hd fun H1 e1 z1 oq => ?_
  refine kk H1 _ ⟨z1.trans hW.1, fun q hq => ?_⟩ (hS.put z1 oq hA)
  rw [va_up]
  by_cases hqk : q = k
  · subst hqk
    rw [if_pos rfl]
    show H1[z + q]? = some (vp_cell _ _)
    rw [e1]
    show some ((vp_cell _ _).setSlot _ _) = _
    rw [vp_cell_q, vp_cell_q, arrV_store]
    congr 2
    funext q'
    by_cases hq' : q' = i.toNatClampNeg
    · subst hq'
      simp [updV, va_up, va_rf]
    · simp [updV, va_up, hq']
  · rw [if_neg hqk]
    exact (hW.2 q hq).kept (oq (z + q) (fun h => hqk (Nat.add_left_cancel h)))
theorem a_iald (C : CX cc nL own ret D ac p m c s args meth S A) (hW : Wg D z n w H) {k N : Nat} {f : Nat → Int32} (hk : k < n) (he : w k = .inl (ac 0, N, .inl f)) {i v : Int32} {j : Nat} (hj : i.toNatClampNeg = j) (hin : vp_in i N) (hv : f j = v) (hd : decode cc pc = .ok (.iaload, 1))
    (kk : W p l e R s m args below meth c H locs cells slots Q (F0 m (pc + 1) ls (.int v :: rest))) : W p l e R s m args below meth c H locs cells slots Q (F0 m pc ls (.int i :: .ref (z + k) :: rest)) := by
  subst hj
  subst hv
  exact g_iald C (hW.wd (w1 := w)) (k := k) hk (by unfold E2; rw [if_pos rfl]; exact he) hin hd kk
theorem a_run {st0 : List Value} {a : Array Value} {mc ms : Nat} (hr : va_Run p l e R s m args below meth c H locs cells slots mc ms (F0 m pc ls st0) rest (QA D z v n1 w1 A a) A) (hS : va_S A s.heap H locs)
    (kk : ∀ (H : Heap) (locs : List Loc), Wg D z n1 w1 H → va_S A s.heap H locs → W p l e R s m args below meth c H locs (cells + mc) (slots + ms) Q (F0 m (pc + 3) ls (v.toList ++ rest))) : W p l e R s m args below meth c H locs cells slots Q (F0 m pc ls st0) := by
  intro T hT X
  obtain ⟨v', st₀, t, T', L, h0, X', hL, e1, e2, ⟨⟨hv, hw⟩, hz, hk⟩, st⟩ := hr T hT X
  cases hv
  rw [h0] at hz hk
  obtain ⟨t2, a1, b1⟩ := kk T'.heap (locs ++ L) (by rw [e1]; exact hw)
    ⟨Nat.le_trans hS.1 (by rw [e1]; exact hz), fun q h1 h2 => by rw [e1, hk q (Nat.lt_of_lt_of_le h1 hS.1) h2]; exact hS.2.1 q h1 h2, fun q hq => by
      rcases List.mem_append.mp hq with h | h
      · exact hS.2.2 q h
      · exact hL q h⟩ T' rfl X'
  exact ⟨t2, st t2 a1, b1⟩
/-- what a maker's call needs of the tables -/
def MI (own : String) (idx : Nat) (y : MethodName) (cc : ByteArray) (maxL : Nat) (np : Nat) : Prop :=
  Cond.code y cc maxL none ∈ TB ∧ Cond.instanceMethod y ∈ TB ∧ Cond.initialized y.cls ∈ TB ∧ (y.cls ≠ "java/lang/invoke/MethodHandle" ∧ y.cls ≠ "java/lang/invoke/VarHandle" ∧ (parseMethodDescriptor y.desc).map (fun d => d.parameters.length) = some np) ∧ y.name = "<init>" ∧ (Cond.methodLink own idx y ∈ TB ∨ (own, idx, y) ∈ nestL)
theorem a_call (C : CX cc nL own ret D ac p m c s args meth S A) {k maxL K' np mc ms : Nat} {As : List Value} {y : MethodName} {bytes : ByteArray} (hW : Wg D z n w H) (hS : va_S A s.heap H locs)
    (hM : MA l D z ac S A y bytes maxL none K' mc ms (.ref (z + k) :: As) n w none n1 w1) (mw : MI own idx y bytes maxL np)
    (hR : K' + 1 ≤ R.frames ∧ 8 + (maxL + 11) + 40 * K' ≤ R.locals ∧ cells + mc ≤ R.cells ∧ slots + ms ≤ R.slots) (hn : As.length = np) (hst : st = As.reverse ++ .ref (z + k) :: rest) (hrest0 : (rest.map fun v => v.category).sum ≤ 8) (hsz : ls.size = nL) (hd : decode cc pc = .ok (.invokespecial idx, 3))
    (kk : ∀ (H : Heap) (locs : List Loc), Wg D z n1 w1 H → va_S A s.heap H locs → W p l e R s m args below meth c H locs (cells + mc) (slots + ms) Q (F0 m (pc + 3) ls rest)) : W p l e R s m args below meth c H locs cells slots Q (F0 m pc ls st) := by
  obtain ⟨hF, hr, hlk, hK, hSX, hA⟩ := C
  obtain ⟨hx, hb, hml, ho, hts⟩ := id hF
  obtain ⟨m1, m3, m5, m6, m7, m8⟩ := mw
  have hp : PreS s H (PreA D z ac S (.ref (z + k) :: As) n w) (.ref (z + k) :: As) := ⟨PreA.blind, fun U hU hWm => ⟨rfl, by rw [hU]; exact hW, va_K.moved hWm.alike hK, hSX.step hWm (fun q h1 h2 => by rw [hU]; exact hS.2.1 q h1 (fun h3 => h2 (hA q h3)))⟩⟩
  have hGI := gIn m1
  rcases m8 with m8 | m8
  · exact a_run (va_runI (As := As) (rest := rest) hF hM ⟨callB_of np hts hGI rfl rfl rfl (hts _ m5) (hts _ m8) m6 ⟨hR.1, hR.2.1⟩, m7, hts _ m3⟩ hp rfl hn hsz hst (lv_room hrest0) hd ⟨hR.2.2.1, hR.2.2.2⟩) hS kk
  · exact a_run (va_runIN (As := As) (rest := rest) hF hM ⟨va_cnB np hts hGI rfl rfl rfl (hSX.2.2.2.2.1 _ m8) (hts _ m5) m6 ⟨hR.1, hR.2.1⟩, m7, hts _ m3⟩ hp rfl hn hsz hst (lv_room hrest0) hd ⟨hR.2.2.1, hR.2.2.2⟩) hS kk
theorem a_vret {mc ms : Nat} (C : CX cc nL own none D ac p m c s args meth S A) (hW : Wg D z n w H) (hS : va_S A s.heap H locs) (hd : decode cc pc = .ok (.return_, 1)) (h1 : cells = mc) (h2 : slots = ms) (hn1 : n = n1) (hw : ∀ q, q < n → ∀ a H, va_at D cls (a, w q) H → va_at D cls (a, w1 q) H) :
    W p l e R s m args below meth c H locs cells slots (MQ below (QA D z none n1 w1 A) args s mc ms A) (F0 m pc ls []) := by
  subst h1; subst h2; subst hn1
  exact W.vret C.1.1 C.1.2.1 C.2.1 (fun t ht hWm => ⟨⟨rfl, by rw [ht]; exact ⟨hW.1, fun q hq => hw q hq _ _ (hW.2 q hq)⟩⟩, hS.F ht⟩) hS.2.2 hd C.2.2.1
theorem at_ints {D : va_G} {cA : ClassId} {N : Nat} {f g : Nat → Int32} (h : ∀ i, i < N → f i = g i) (a : Nat) (H : Heap) : va_at D cls (a, .inl (cA, N, .inl f)) H → va_at D cls (a, .inl (cA, N, .inl g)) H := by
  intro h1
  have e1 : vp_cell cA (N, .inl f) = vp_cell cA (N, .inl g) := by
    rw [vp_cell_i, vp_cell_i]
    unfold arrV
    congr 1
    apply Array.ext
    · simp
    · intro i hi1 hi2
      simp at hi1
      simp [h i hi1]
  show H[a]? = some (vp_cell _ _)
  rw [← e1]
  exact h1
theorem at_refs {D : va_G} {cA : ClassId} {N : Nat} {f g : Nat → Option Nat} (h : ∀ i, i < N → f i = g i) (a : Nat) (H : Heap) : va_at D cls (a, .inl (cA, N, .inr (.inr (.inr (.inr f))))) H → va_at D cls (a, .inl (cA, N, .inr (.inr (.inr (.inr g))))) H := by
  intro h1
  have e1 : vp_cell cA (N, .inr (.inr (.inr (.inr f)))) = vp_cell cA (N, .inr (.inr (.inr (.inr g)))) := by
    rw [vp_cell_q, vp_cell_q]
    unfold arrV
    congr 1
    apply Array.ext
    · simp
    · intro i hi1 hi2
      simp at hi1
      simp [h i hi1]
  show H[a]? = some (vp_cell _ _)
  rw [← e1]
  exact h1
end GM
