/-! BASE: memories of whole numbers by cell and place; a world of cells from an address on; a contract by a memory ahead and behind; rows for them -/
theorem inb_in {i : Int32} {n : Nat} (h : inb i n = true) : vp_in i n := by
  simp only [inb, Bool.and_eq_true, decide_eq_true_eq] at h
  intro q
  rcases q with q | q
  · exact absurd q (Int32.not_lt.mpr h.1)
  · omega
theorem inb_lt {i : Int32} {n : Nat} (h : inb i n = true) : i.toNatClampNeg < n := by
  simp only [inb, Bool.and_eq_true, decide_eq_true_eq] at h
  exact h.2
abbrev cls : List vw_C := [(RX0, TX0, 5), (RX1, TX1, 6), (RX2, TX2, 9), (RX3, TX3, 4), (RX4, TX4, 3), (RX5, TX5, 3), (RX6, TX6, 12), (RX7, TX7, 6), (RX8, TX8, 10), (RX9, TX9, 48)]
abbrev tysA (ac : Nat → ClassId) : List (ClassId × FieldType) := [(ac 0, .int), (ac 1, .object RX1), (ac 2, .object RX7), (ac 3, .object RX4), (ac 4, .object RX5)]
def Wd (D : va_G) (E : Mem → Nat → va_E) (P : Mem → Nat → Prop) (z : Nat) (σ : Mem) (H : Heap) : Prop := ∀ k : Nat, P σ k → va_at D cls (z + k, E σ k) H
/-- the String constants and the two statics that their methods read: nothing of them lies from S.1 on -/
abbrev SP : Type := Nat × (Nat → Nat) × (Nat → Nat)
def nestL : List (String × Nat × MethodName) := [(RX8, 18, yX2_init), (RX6, 27, yX1_init), (RX6, 28, yX7_init), (RX8, 48, yX4_init), (RX8, 51, yX1_init), (RX8, 61, yX0_init)]
def NX (U : State) : Prop := (∀ q ∈ nestL, va_Nw (.methodLinkNest q.1 q.2.1 q.2.2 "BeardsAreBonds") U) ∧ ∀ C ∈ [RX1, RX7, RX4, RX5], va_AO C U
def SX (S : SP) (U : State) : Prop := (∀ i : Nat, i < 12 → vk_R RX2 (sIx.getD i 0) (sTx.getD i "") (S.2.1 i) U) ∧ vk_S 12 sLen sByt S.2.1 S.2.2 (fun q => S.1 ≤ q) U U.heap ∧
  va_Z "java/lang/String" "COMPACT_STRINGS" "Z" (.int 1) (fun q => S.1 ≤ q) U U.heap ∧ va_Zq "jdk/internal/util/Preconditions" "SIOOBE_FORMATTER" "Ljava/util/function/BiFunction;" (fun q => S.1 ≤ q) U U.heap ∧ NX U
theorem SX.step {S : SP} {s U : State} (hW : s.WarmedH U.vm) (hh : ∀ q : Nat, q < s.heap.size → ¬ S.1 ≤ q → U.heap[q]? = s.heap[q]?) (h : SX S s) : SX S U :=
  ⟨fun i hi => (h.1 i hi).warm hW, (h.2.1.moved hW.alike).kept hh, (h.2.2.1.moved hW.alike).kept hh, (h.2.2.2.1.moved hW.alike).kept hh, fun q hq => (h.2.2.2.2.1 q hq).warmM hW, fun C hC => (h.2.2.2.2.2 C hC).moved hW.alike⟩
def CX (cc : ByteArray) (nL : Nat) (own : String) (ret : Option FieldType) (D : va_G) (ac : Nat → ClassId) (p : Program) (m : MethodId) (c : Code) (s : State) (args : Array Value) (meth : Method) (S : SP) (A : Nat → Prop) : Prop :=
  (p.tables.exec = Jvm.exec ∧ c.code = cc ∧ c.maxLocals = nL ∧ s.vm.findClass own = some m.cls ∧ ∀ w ∈ TB, w.before args s = true) ∧ meth.sig.returnType = ret ∧ meth.locks = false ∧ va_K D cls (tysA ac) s ∧ SX S s ∧ ∀ q, A q → S.1 ≤ q
abbrev rma (K mc ms : Nat) : Room := { frames := K, cells := mc, slots := ms, locals := 40 * K }
def wl (y : MethodName) (cc : ByteArray) (n : Nat) (ret : Option FieldType) : List Cond := Cond.code y cc n ret :: TB
def Pre (D : va_G) (E : Mem → Nat → va_E) (P : Mem → Nat → Prop) (z : Nat) (ac : Nat → ClassId) (S : SP) (vs : List Value) (σ : Mem) : Array Value → State → Prop := va_Pc vs (fun U => Wd D E P z σ U.heap ∧ va_K D cls (tysA ac) U ∧ SX S U)
def QV (D : va_G) (E : Mem → Nat → va_E) (P : Mem → Nat → Prop) (z : Nat) (v : Option Value) (σ1 : Mem) (A : Nat → Prop) : Array Value → State → Outcome → State → Prop := fun _ st oc t => (oc = .returned v ∧ Wd D E P z σ1 t.heap) ∧ va_F A st t
def QZ (D : va_G) (E : Mem → Nat → va_E) (P : Mem → Nat → Prop) (z : Nat) (v : Option Value) (σ1 : Mem) (A : Nat → Prop) : Array Value → State → Outcome → State → Prop := fun a st oc t => QV D E P z v σ1 A a st oc t ∧ t.heap.size = st.heap.size
def MC (l : Launch) (D : va_G) (E : Mem → Nat → va_E) (P : Mem → Nat → Prop) (z : Nat) (ac : Nat → ClassId) (S : SP) (A : Nat → Prop) (y : MethodName) (cc : ByteArray) (n : Nat) (ret : Option FieldType) (K : Nat) (vs : List Value) (σ : Mem) (v : Option Value) (σ1 : Mem) : Prop :=
  Met l y (wl y cc n ret) (rma K 0 0) (Pre D E P z ac S vs σ) (QZ D E P z v σ1 A) 0 0 A
def rv (z : Nat) (o : Option Nat) : Value := va_rf (o.map (fun k => z + k))
theorem gIn {y : MethodName} {cc : ByteArray} {n : Nat} {ret : Option FieldType} (h : Cond.code y cc n ret ∈ TB) : GoodIn TB (wl y cc n ret) := by
  intro w hw
  have hm : w ∈ TB := by
    rcases List.mem_cons.mp hw with rfl | h1
    · exact h
    · exact h1
  exact ⟨hm, good_of_word (List.mem_filter.mp hm).2⟩
theorem Pre.blind {D : va_G} {E : Mem → Nat → va_E} {P : Mem → Nat → Prop} {z : Nat} {ac : Nat → ClassId} {S : SP} {vs : List Value} {σ : Mem} : FrameBlind (Pre D E P z ac S vs σ) := by
  intro a U g mk q
  obtain ⟨q0, q1, q2, q3⟩ := q
  exact ⟨q0, q1, va_K.moved (u := U) (U := U.calling g mk a) (Vm.Alike.refl U.vm) q2, SX.step (s := U) (U := U.calling g mk a) (State.WarmedH.refl U) (fun _ _ _ => rfl) q3⟩
section GB
variable {p : Program} {l : Launch} {e : Env} {R : Room} {s : State} {m : MethodId} {args : Array Value} {below : List Frame} {meth : Method} {c : Code} {H : Heap} {locs : List Loc} {cells slots : Nat} {Q : State → Prop}
variable {cc : ByteArray} {nL : Nat} {own : String} {ret : Option FieldType} {D : va_G} {ac : Nat → ClassId} {z : Nat} {σ σ1 : Mem} {E : Mem → Nat → va_E} {P : Mem → Nat → Prop} {A : Nat → Prop} {S : SP} {pc : Nat} {ls : Array Slot} {st rest : List Value} {v : Option Value}
theorem MC.of {y : MethodName} {n K : Nat} {vs : List Value} (hA : ∀ q, A q → S.1 ≤ q) (hy : plainFor y = true) (hn : (lg_sl vs).length ≤ n)
    (body : ∀ (p : Program) (e : Env) (s : State) (m : MethodId) (below : List Frame) (meth : Method) (c : Code) (args : Array Value), CX cc n y.cls ret D ac p m c s args meth S A → Wd D E P z σ s.heap → ∀ ls, lv_has ls n (lv_args 0 vs) →
      W p l e (rma K 0 0) s m args below meth c s.heap [] 0 0 (MQ below (QV D E P z v σ1 A) args s 0 0 A) (F0 m 0 ls [])) : MC l D E P z ac S A y cc n ret K vs σ v σ1 := by
  unfold MC Met
  refine MetFree.of_bodySF (code := cc) (maxLocals := n) (ret := ret) hy (fun args s m h hn => ?_) (fun p e s m args below meth c s₁ B hml hv _ => ?_)
  · obtain ⟨meth, c, h1, h2, h3, h4, h5, h6, -, -⟩ := Cond.code_spec hn (atoms_spec (ws := wl y cc n ret) h _ List.mem_cons_self)
    exact ⟨meth, c, h1, h2, h3, h4, h5, h6⟩
  · obtain ⟨rfl, hW, hK, hSX⟩ := hv
    have hts0 := atoms_spec (ws := wl y cc n ret) B.pre
    have hl := lv_entry vs (n := n) hn
    have hh0 : s₁.heap = s.heap := by rw [B.state]; rfl
    have hk := body p e s m below meth c _ ⟨⟨B.exec, B.bytes, hml, findClass_of_methodNamed B.named, fun w hw => hts0 w (List.mem_cons_of_mem _ hw)⟩, B.returns, B.notSynchronized, hK, hSX, hA⟩ hW _ hl
    rw [← lg_entry_eq] at hk
    obtain ⟨t, a1, o, b1, b2, b3⟩ := hk s₁ hh0 (Stand.of_body B)
    obtain ⟨L, hF, -⟩ := id b3.2
    have h5 : s.heap.size ≤ t.heap.size := hF.2.2.2.1
    have h6 : t.heap.size ≤ s.heap.size + 0 := hF.2.2.2.2.1
    exact ⟨t, o, a1, b1, b2, ⟨⟨b3.1, Nat.le_antisymm h6 h5⟩, b3.2⟩⟩
theorem g_runZ {a : Array Value} {st0 : List Value} (hr : va_Run p l e R s m args below meth c H locs cells slots 0 0 (F0 m pc ls st0) rest (QZ D E P z v σ1 A a) A) (hS : va_S A s.heap H locs)
    (kk : ∀ (H' : Heap) (locs : List Loc), Wd D E P z σ1 H' → va_S A s.heap H' locs → H'.size = H.size → W p l e R s m args below meth c H' locs cells slots Q (F0 m (pc + 3) ls (v.toList ++ rest))) : W p l e R s m args below meth c H locs cells slots Q (F0 m pc ls st0) := by
  intro T hT X
  obtain ⟨v', st₀, t, T', L, h0, X', hL, e1, e2, ⟨⟨⟨hv, hw⟩, hz, hk⟩, hsz⟩, st⟩ := hr T hT X
  cases hv
  rw [h0] at hz hk hsz
  obtain ⟨t2, a1, b1⟩ := kk T'.heap (locs ++ L) (by rw [e1]; exact hw)
    ⟨Nat.le_trans hS.1 (by rw [e1]; exact hz), fun q h1 h2 => by rw [e1, hk q (Nat.lt_of_lt_of_le h1 hS.1) h2]; exact hS.2.1 q h1 h2, fun q hq => by
      rcases List.mem_append.mp hq with h | h
      · exact hS.2.2 q h
      · exact hL q h⟩ (by rw [e1]; exact hsz) T' rfl X'
  exact ⟨t2, st t2 a1, b1⟩
theorem g_run {a : Array Value} {st0 : List Value} (hr : va_Run p l e R s m args below meth c H locs cells slots 0 0 (F0 m pc ls st0) rest (QZ D E P z v σ1 A a) A) (hS : va_S A s.heap H locs)
    (kk : ∀ (H : Heap) (locs : List Loc), Wd D E P z σ1 H → va_S A s.heap H locs → W p l e R s m args below meth c H locs cells slots Q (F0 m (pc + 3) ls (v.toList ++ rest))) : W p l e R s m args below meth c H locs cells slots Q (F0 m pc ls st0) := g_runZ hr hS (fun H' locs' h1 h2 _ => kk H' locs' h1 h2)
theorem g_virt {st2 : List Value} (C : CX cc nL own ret D ac p m c s args meth S A) {ci k idx maxL K' N n : Nat} {fs As : List Value} {y : MethodName} {bytes : ByteArray} {ret' : Option FieldType} {T : u_T} (hW : Wd D E P z σ H) (hS : va_S A s.heap H locs)
    (hM : MC l D E P z ac S A y bytes maxL ret' K' (.ref (z + k) :: As) σ v σ1) (mw : MW own idx y bytes maxL ret' n) (hk : P σ k) (he : E σ k = .inr (ci, fs)) (hc : cls[ci]? = some (y.cls, T, N))
    (hR : K' + 1 ≤ R.frames ∧ 8 + (maxL + 11) + 40 * K' ≤ R.locals ∧ cells ≤ R.cells ∧ slots ≤ R.slots) (hn : As.length = n) (hst : st = As.reverse ++ .ref (z + k) :: rest) (hst2 : v.toList ++ rest = st2) (hrest0 : (rest.map fun v => v.category).sum ≤ 8) (hsz : ls.size = nL) (hd : decode cc pc = .ok (.invokevirtual idx, 3))
    (kk : ∀ (H : Heap) (locs : List Loc), Wd D E P z σ1 H → va_S A s.heap H locs → W p l e R s m args below meth c H locs cells slots Q (F0 m (pc + 3) ls st2)) : W p l e R s m args below meth c H locs cells slots Q (F0 m pc ls st) := by
  obtain ⟨hF, hr, hlk, hK, hSX, hA⟩ := C
  obtain ⟨hx, hb, hml, ho, hts⟩ := id hF
  subst hst2
  obtain ⟨m1, m2, m3, m4, m5, m6⟩ := mw
  have hP : va_P D cls [(z + k, .inr (ci, fs))] H := by
    intro i q hq
    have hz : i < 1 := (List.getElem?_eq_some_iff.mp hq).1
    rw [show i = 0 by omega] at hq
    cases hq
    have := hW k hk
    rw [he] at this
    exact this
  have cw : CallW R s args own y.cls idx y bytes maxL ret' (wl y bytes maxL ret') (rma K' 0 0) 0 0 n := ⟨callB_of n hts (gIn m1) rfl rfl rfl (hts _ m5) (hts _ m2) m6 ⟨hR.1, hR.2.1⟩, hts _ m3, hts _ m4⟩
  exact g_run (va_runV (As := As) (rest := rest) hF hM cw ⟨Pre.blind, va_recv hK hP (ci := ci) (q0 := 0) hc rfl, fun U hU hWm => ⟨rfl, by rw [hU]; exact hW, va_K.moved hWm.alike hK, hSX.step hWm (fun q h1 h2 => by rw [hU]; exact hS.2.1 q h1 (fun h3 => h2 (hA q h3)))⟩⟩ rfl hn hsz hst (lv_room hrest0) hd ⟨hR.2.2.1, hR.2.2.2⟩) hS kk
theorem g_virtZ {st2 : List Value} (C : CX cc nL own ret D ac p m c s args meth S A) {ci k idx maxL K' N n : Nat} {fs As : List Value} {y : MethodName} {bytes : ByteArray} {ret' : Option FieldType} {T : u_T} (hW : Wd D E P z σ H) (hS : va_S A s.heap H locs)
    (hM : MC l D E P z ac S A y bytes maxL ret' K' (.ref (z + k) :: As) σ v σ1) (mw : MW own idx y bytes maxL ret' n) (hk : P σ k) (he : E σ k = .inr (ci, fs)) (hc : cls[ci]? = some (y.cls, T, N))
    (hR : K' + 1 ≤ R.frames ∧ 8 + (maxL + 11) + 40 * K' ≤ R.locals ∧ cells ≤ R.cells ∧ slots ≤ R.slots) (hn : As.length = n) (hst : st = As.reverse ++ .ref (z + k) :: rest) (hst2 : v.toList ++ rest = st2) (hrest0 : (rest.map fun v => v.category).sum ≤ 8) (hsz : ls.size = nL) (hd : decode cc pc = .ok (.invokevirtual idx, 3))
    (kk : ∀ (H' : Heap) (locs : List Loc), Wd D E P z σ1 H' → va_S A s.heap H' locs → H'.size = H.size → W p l e R s m args below meth c H' locs cells slots Q (F0 m (pc + 3) ls st2)) : W p l e R s m args below meth c H locs cells slots Q (F0 m pc ls st) := by
  obtain ⟨hF, hr, hlk, hK, hSX, hA⟩ := C
  obtain ⟨hx, hb, hml, ho, hts⟩ := id hF
  subst hst2
  obtain ⟨m1, m2, m3, m4, m5, m6⟩ := mw
  have hP : va_P D cls [(z + k, .inr (ci, fs))] H := by
    intro i q hq
    have hz : i < 1 := (List.getElem?_eq_some_iff.mp hq).1
    rw [show i = 0 by omega] at hq
    cases hq
    have := hW k hk
    rw [he] at this
    exact this
  have cw : CallW R s args own y.cls idx y bytes maxL ret' (wl y bytes maxL ret') (rma K' 0 0) 0 0 n := ⟨callB_of n hts (gIn m1) rfl rfl rfl (hts _ m5) (hts _ m2) m6 ⟨hR.1, hR.2.1⟩, hts _ m3, hts _ m4⟩
  exact g_runZ (va_runV (As := As) (rest := rest) hF hM cw ⟨Pre.blind, va_recv hK hP (ci := ci) (q0 := 0) hc rfl, fun U hU hWm => ⟨rfl, by rw [hU]; exact hW, va_K.moved hWm.alike hK, hSX.step hWm (fun q h1 h2 => by rw [hU]; exact hS.2.1 q h1 (fun h3 => h2 (hA q h3)))⟩⟩ rfl hn hsz hst (lv_room hrest0) hd ⟨hR.2.2.1, hR.2.2.2⟩) hS kk
theorem g_stat {st2 : List Value} (C : CX cc nL own ret D ac p m c s args meth S A) {idx maxL K' n : Nat} {As : List Value} {y : MethodName} {bytes : ByteArray} {ret' : Option FieldType} (hW : Wd D E P z σ H) (hS : va_S A s.heap H locs)
    (hM : MC l D E P z ac S A y bytes maxL ret' K' As σ v σ1) (mw : MS own idx y bytes maxL ret' n)
    (hR : K' + 1 ≤ R.frames ∧ 8 + (maxL + 11) + 40 * K' ≤ R.locals ∧ cells ≤ R.cells ∧ slots ≤ R.slots) (hn : As.length = n) (hst : st = As.reverse ++ rest) (hst2 : v.toList ++ rest = st2) (hrest0 : (rest.map fun v => v.category).sum ≤ 8) (hsz : ls.size = nL) (hd : decode cc pc = .ok (.invokestatic idx, 3))
    (kk : ∀ (H : Heap) (locs : List Loc), Wd D E P z σ1 H → va_S A s.heap H locs → W p l e R s m args below meth c H locs cells slots Q (F0 m (pc + 3) ls st2)) : W p l e R s m args below meth c H locs cells slots Q (F0 m pc ls st) := by
  obtain ⟨hF, hr, hlk, hK, hSX, hA⟩ := C
  obtain ⟨hx, hb, hml, ho, hts⟩ := id hF
  subst hst2
  obtain ⟨m1, m2, m3, m5, m6⟩ := mw
  have cw : CallB R s args own idx y bytes maxL ret' (wl y bytes maxL ret') (rma K' 0 0) 0 0 n ∧ (Cond.static y).before args s = true := ⟨callB_of n hts (gIn m1) rfl rfl rfl (hts _ m5) (hts _ m2) m6 ⟨hR.1, hR.2.1⟩, hts _ m3⟩
  exact g_run (va_runS (As := As) (rest := rest) hF hM cw ⟨Pre.blind, fun U hU hWm => ⟨rfl, by rw [hU]; exact hW, va_K.moved hWm.alike hK, hSX.step hWm (fun q h1 h2 => by rw [hU]; exact hS.2.1 q h1 (fun h3 => h2 (hA q h3)))⟩⟩ rfl hn hsz hst (lv_room hrest0) hd ⟨hR.2.2.1, hR.2.2.2⟩) hS kk
theorem g_get (C : CX cc nL own ret D ac p m c s args meth S A) (hW : Wd D E P z σ H) {k ci N idx : Nat} {fs : List Value} {Cn : String} {T : u_T} (hk : P σ k) (he : E σ k = .inr (ci, fs)) (hc : cls[ci]? = some (Cn, T, N)) (hlays : ∀ w ∈ u_ws Cn T N, w ∈ TB) (j : Nat) (hj : j < N) (hl : Cond.fieldLink own idx (T j).1 (T j).2.1 (T j).2.2.1 ∈ TB) {x : Value} (hv : fs[j]? = some x) (hd : decode cc pc = .ok (.getfield idx, 3))
    (kk : W p l e R s m args below meth c H locs cells slots Q (F0 m (pc + 3) ls (x :: rest))) : W p l e R s m args below meth c H locs cells slots Q (F0 m pc ls (.ref (z + k) :: rest)) := by
  obtain ⟨⟨hx, hb, hml, ho, hts⟩, hr, hlk, hK, -, -⟩ := C
  have hP : va_P D cls [(z + k, .inr (ci, fs))] H := by
    intro i q hq
    have hz : i < 1 := (List.getElem?_eq_some_iff.mp hq).1
    rw [show i = 0 by omega] at hq
    cases hq
    have := hW k hk
    rw [he] at this
    exact this
  exact va_get (C := Cn) (T := T) (N := N) hx hb hts hlays ho hK hP 0 rfl hc j hj (hts _ hl) (fun _ h => h) hv hd kk
theorem g_putZ (C : CX cc nL own ret D ac p m c s args meth S A) (hW : Wd D E P z σ H) (hS : va_S A s.heap H locs) {k ci N idx : Nat} {fs : List Value} {Cn : String} {T : u_T} (ty0 : Nat → FieldType) (hk : P σ k) (he : E σ k = .inr (ci, fs)) (hA : A (z + k)) (hc : cls[ci]? = some (Cn, T, N)) (hlays : ∀ w ∈ u_ws Cn T N, w ∈ TB)
    (hty : ∀ k, k < N → parseFieldDescriptor (T k).2.2.1 = some (ty0 k)) (hnm : ∀ a, a < N → ∀ b, b < N → a ≠ b → (T a).2.1 ≠ (T b).2.1) (j : Nat) (hj : j < N) (hl : Cond.fieldLink own idx (T j).1 (T j).2.1 (T j).2.2.1 ∈ TB) (hfin : (T j).2.2.2 = false) {x : Value} (hn : narrow (ty0 j) x = x) (hfit : fits (ty0 j) x = true) (hlen : j < fs.length)
    (hE1 : E σ1 k = .inr (ci, fs.set j x)) (hE2 : ∀ q, q ≠ k → E σ1 q = E σ q) (hP : ∀ q, P σ1 q → P σ q) (hd : decode cc pc = .ok (.putfield idx, 3))
    (kk : ∀ (H' : Heap) (locs : List Loc), Wd D E P z σ1 H' → va_S A s.heap H' locs → H'.size = H.size → W p l e R s m args below meth c H' locs cells slots Q (F0 m (pc + 3) ls rest)) : W p l e R s m args below meth c H locs cells slots Q (F0 m pc ls (x :: .ref (z + k) :: rest)) := by
  obtain ⟨⟨hx, hb, hml, ho, hts⟩, hr, hlk, hK, -, -⟩ := C
  have hap := va_apart (own := own) (D := D) hts hlays ty0 hty hnm hK hc
  have hWk := hW k hk
  rw [he] at hWk
  obtain ⟨r, h1, cell, q1, q2, q3, q4⟩ := hWk
  have hr : r = (Cn, T, N) := Option.some.inj (h1.symm.trans hc)
  subst hr
  obtain ⟨hSl, hfc, kC, hkC, hkind⟩ := hK.1 ci _ hc
  obtain ⟨cf, kf, fi, f, hi, hsl⟩ := hSl j hj
  have hlay := hts _ (hlays _ (u_in_lay hj))
  unfold u_lay at hlay
  rw [if_neg (by rw [hfin]; decide)] at hlay
  have hst := (u_facts hfc hkC (u_lays hts hlays hj) hi).1
  have h6 := u_store hfc hkC hkind hlay hi (hty j hj) hn hfit
  refine W.putK hx hb (f := f) ⟨ho, hts _ hl, ⟨_, _, _, hi⟩, hst⟩ (by rw [q2]; exact h6) q1 q3 (by rw [hsl]; exact k2_hasslot (q4 j hj)) rfl rfl hd fun H' e1 e2 e3 => ?_
  rw [hsl] at e1 ⊢
  refine kk H' _ ?_ (hS.put e2 e3 hA) e2
  intro q hq
  by_cases hqk : q = k
  · subst hqk
    rw [hE1]
    exact ⟨_, hc, t_OB.to (V := updV (vp_V fs) j x) ⟨_, e1, q2, q3, t_set q4 hap hj x⟩ (fun i _ => vp_updV_set hlen x i)⟩
  · rw [hE2 q hqk]
    exact (hW q (hP q hq)).kept (e3 (z + q) (fun h => hqk (Nat.add_left_cancel h)))
theorem g_put (C : CX cc nL own ret D ac p m c s args meth S A) (hW : Wd D E P z σ H) (hS : va_S A s.heap H locs) {k ci N idx : Nat} {fs : List Value} {Cn : String} {T : u_T} (ty0 : Nat → FieldType) (hk : P σ k) (he : E σ k = .inr (ci, fs)) (hA : A (z + k)) (hc : cls[ci]? = some (Cn, T, N)) (hlays : ∀ w ∈ u_ws Cn T N, w ∈ TB)
    (hty : ∀ k, k < N → parseFieldDescriptor (T k).2.2.1 = some (ty0 k)) (hnm : ∀ a, a < N → ∀ b, b < N → a ≠ b → (T a).2.1 ≠ (T b).2.1) (j : Nat) (hj : j < N) (hl : Cond.fieldLink own idx (T j).1 (T j).2.1 (T j).2.2.1 ∈ TB) (hfin : (T j).2.2.2 = false) {x : Value} (hn : narrow (ty0 j) x = x) (hfit : fits (ty0 j) x = true) (hlen : j < fs.length)
    (hE1 : E σ1 k = .inr (ci, fs.set j x)) (hE2 : ∀ q, q ≠ k → E σ1 q = E σ q) (hP : ∀ q, P σ1 q → P σ q) (hd : decode cc pc = .ok (.putfield idx, 3))
    (kk : ∀ (H : Heap) (locs : List Loc), Wd D E P z σ1 H → va_S A s.heap H locs → W p l e R s m args below meth c H locs cells slots Q (F0 m (pc + 3) ls rest)) : W p l e R s m args below meth c H locs cells slots Q (F0 m pc ls (x :: .ref (z + k) :: rest)) :=
  g_putZ C hW hS ty0 hk he hA hc hlays hty hnm j hj hl hfin hn hfit hlen hE1 hE2 hP hd (fun H locs h1 h2 _ => kk H locs h1 h2)
theorem g_iald (C : CX cc nL own ret D ac p m c s args meth S A) (hW : Wd D E P z σ H) {k n : Nat} {f : Nat → Int32} (hk : P σ k) (he : E σ k = .inl (ac 0, n, .inl f)) {i : Int32} (hin : vp_in i n) (hd : decode cc pc = .ok (.iaload, 1))
    (kk : W p l e R s m args below meth c H locs cells slots Q (F0 m (pc + 1) ls (.int (f i.toNatClampNeg) :: rest))) : W p l e R s m args below meth c H locs cells slots Q (F0 m pc ls (.int i :: .ref (z + k) :: rest)) := by
  obtain ⟨⟨hx, hb, hml, ho, hts⟩, hr, hlk, hK, -, -⟩ := C
  have hP : va_P D cls [(z + k, .inl (ac 0, n, .inl f))] H := by
    intro i q hq
    have hz : i < 1 := (List.getElem?_eq_some_iff.mp hq).1
    rw [show i = 0 by omega] at hq
    cases hq
    have := hW k hk
    rw [he] at this
    exact this
  exact va_iald hx hb hK hP 0 0 rfl rfl hin hd kk
theorem g_aald (C : CX cc nL own ret D ac p m c s args meth S A) (hW : Wd D E P z σ H) {k n : Nat} (t0 : Nat) {cA : ClassId} {Cn : String} {f : Nat → Option Nat} (hk : P σ k) (he : E σ k = .inl (cA, n, .inr (.inr (.inr (.inr f))))) (ht : (tysA ac)[t0]? = some (cA, .object Cn)) {i : Int32} (hin : vp_in i n) (hd : decode cc pc = .ok (.aaload, 1))
    (kk : W p l e R s m args below meth c H locs cells slots Q (F0 m (pc + 1) ls (va_rf (f i.toNatClampNeg) :: rest))) : W p l e R s m args below meth c H locs cells slots Q (F0 m pc ls (.int i :: .ref (z + k) :: rest)) := by
  obtain ⟨⟨hx, hb, hml, ho, hts⟩, hr, hlk, hK, -, -⟩ := C
  have hP : va_P D cls [(z + k, .inl (cA, n, .inr (.inr (.inr (.inr f)))))] H := by
    intro i q hq
    have hz : i < 1 := (List.getElem?_eq_some_iff.mp hq).1
    rw [show i = 0 by omega] at hq
    cases hq
    have := hW k hk
    rw [he] at this
    exact this
  exact va_aldq hx hb hK hP 0 t0 rfl ht hin hd kk
theorem g_alen (C : CX cc nL own ret D ac p m c s args meth S A) (hW : Wd D E P z σ H) {k : Nat} (t0 : Nat) {cA : ClassId} {x : vp_A} {ty : FieldType} (hk : P σ k) (he : E σ k = .inl (cA, x)) (ht : (tysA ac)[t0]? = some (cA, ty)) {v : Int32} (hv : Int32.ofNat x.1 = v) (hd : decode cc pc = .ok (.arraylength, 1))
    (kk : W p l e R s m args below meth c H locs cells slots Q (F0 m (pc + 1) ls (.int v :: rest))) : W p l e R s m args below meth c H locs cells slots Q (F0 m pc ls (.ref (z + k) :: rest)) := by
  obtain ⟨⟨hx, hb, hml, ho, hts⟩, hr, hlk, hK, -, -⟩ := C
  have hP : va_P D cls [(z + k, .inl (cA, x))] H := by
    intro i q hq
    have hz : i < 1 := (List.getElem?_eq_some_iff.mp hq).1
    rw [show i = 0 by omega] at hq
    cases hq
    have := hW k hk
    rw [he] at this
    exact this
  exact va_alen hx hb hK hP 0 t0 rfl ht hv hd kk
theorem g_iastZ (C : CX cc nL own ret D ac p m c s args meth S A) (hW : Wd D E P z σ H) (hS : va_S A s.heap H locs) {k n : Nat} {f : Nat → Int32} (hk : P σ k) (he : E σ k = .inl (ac 0, n, .inl f)) (hA : A (z + k)) {i x : Int32} (hin : vp_in i n)
    (hE1 : E σ1 k = .inl (ac 0, n, .inl (upd f i.toNatClampNeg x))) (hE2 : ∀ q, q ≠ k → E σ1 q = E σ q) (hP : ∀ q, P σ1 q → P σ q) (hd : decode cc pc = .ok (.iastore, 1))
    (kk : ∀ (H' : Heap) (locs : List Loc), Wd D E P z σ1 H' → va_S A s.heap H' locs → H'.size = H.size → W p l e R s m args below meth c H' locs cells slots Q (F0 m (pc + 1) ls rest)) : W p l e R s m args below meth c H locs cells slots Q (F0 m pc ls (.int x :: .int i :: .ref (z + k) :: rest)) := by
  obtain ⟨⟨hx, hb, hml, ho, hts⟩, hr, hlk, hK, -, -⟩ := C
  have hWk := hW k hk
  rw [he] at hWk
  refine W.iast hx hb hWk ((hK.2 0 _ rfl).1 n (fun j => .int (f j))) (fun q => by cases q) (by show ¬ (i < 0 ∨ (arrV _ _ _).slots.size ≤ _); rw [arrV_size]; exact hin) rfl rfl hd fun H1 e z1 oq => ?_
  refine kk H1 _ ?_ (hS.put z1 oq hA) z1
  intro q hq
  by_cases hqk : q = k
  · subst hqk
    rw [hE1]
    show H1[z + q]? = some (vp_cell _ _)
    rw [e]
    show some ((vp_cell _ _).setSlot _ _) = _
    rw [vp_cell_i, vp_cell_i, arrV_store]
    congr 2
    funext q'
    by_cases hq' : q' = i.toNatClampNeg
    · subst hq'
      simp [updV, upd]
    · simp [updV, upd, hq']
  · rw [hE2 q hqk]
    exact (hW q (hP q hq)).kept (oq (z + q) (fun h => hqk (Nat.add_left_cancel h)))
theorem g_iast (C : CX cc nL own ret D ac p m c s args meth S A) (hW : Wd D E P z σ H) (hS : va_S A s.heap H locs) {k n : Nat} {f : Nat → Int32} (hk : P σ k) (he : E σ k = .inl (ac 0, n, .inl f)) (hA : A (z + k)) {i x : Int32} (hin : vp_in i n)
    (hE1 : E σ1 k = .inl (ac 0, n, .inl (upd f i.toNatClampNeg x))) (hE2 : ∀ q, q ≠ k → E σ1 q = E σ q) (hP : ∀ q, P σ1 q → P σ q) (hd : decode cc pc = .ok (.iastore, 1))
    (kk : ∀ (H : Heap) (locs : List Loc), Wd D E P z σ1 H → va_S A s.heap H locs → W p l e R s m args below meth c H locs cells slots Q (F0 m (pc + 1) ls rest)) : W p l e R s m args below meth c H locs cells slots Q (F0 m pc ls (.int x :: .int i :: .ref (z + k) :: rest)) :=
  g_iastZ C hW hS hk he hA hin hE1 hE2 hP hd (fun H locs h1 h2 _ => kk H locs h1 h2)
theorem g_ret {ty : FieldType} (C : CX cc nL own (some ty) D ac p m c s args meth S A) (hW : Wd D E P z σ H) (hS : va_S A s.heap H locs) {x : Int32} (hn : narrow ty (.int x) = .int x) (hd : decode cc pc = .ok (.ireturn, 1)) (hv : v = some (.int x)) (hm : σ1 = σ) :
    W p l e R s m args below meth c H locs cells slots (MQ below (QV D E P z v σ1 A) args s cells slots A) (F0 m pc ls [.int x]) := by
  subst hv; subst hm
  exact W.zret C.1.1 C.1.2.1 C.2.1 hn (fun t ht hWm => ⟨⟨rfl, by rw [ht]; exact hW⟩, hS.F ht⟩) hS.2.2 hd C.2.2.1
theorem g_lret (C : CX cc nL own (some .long) D ac p m c s args meth S A) (hW : Wd D E P z σ H) (hS : va_S A s.heap H locs) {x : Int64} (hd : decode cc pc = .ok (.lreturn, 1)) (hv : v = some (.long x)) (hm : σ1 = σ) :
    W p l e R s m args below meth c H locs cells slots (MQ below (QV D E P z v σ1 A) args s cells slots A) (F0 m pc ls [.long x]) := by
  subst hv; subst hm
  exact W.lret C.1.1 C.1.2.1 C.2.1 (fun t ht hWm => ⟨⟨rfl, by rw [ht]; exact hW⟩, hS.F ht⟩) hS.2.2 hd C.2.2.1
theorem g_vret (C : CX cc nL own none D ac p m c s args meth S A) (hW : Wd D E P z σ H) (hS : va_S A s.heap H locs) (hd : decode cc pc = .ok (.return_, 1)) (hv : v = none) (hm : σ1 = σ) :
    W p l e R s m args below meth c H locs cells slots (MQ below (QV D E P z v σ1 A) args s cells slots A) (F0 m pc ls []) := by
  subst hv; subst hm
  exact W.vret C.1.1 C.1.2.1 C.2.1 (fun t ht hWm => ⟨⟨rfl, by rw [ht]; exact hW⟩, hS.F ht⟩) hS.2.2 hd C.2.2.1
theorem g_aret {rt : FieldType} (C : CX cc nL own (some rt) D ac p m c s args meth S A) (hrt : (∃ n, rt = .object n) ∨ ∃ t, rt = .array t) (hW : Wd D E P z σ H) (hS : va_S A s.heap H locs) {x : Value} (o : Option Nat) (hx : x = rv z o) (hd : decode cc pc = .ok (.areturn, 1)) (hv : v = some (rv z o)) (hm : σ1 = σ) :
    W p l e R s m args below meth c H locs cells slots (MQ below (QV D E P z v σ1 A) args s cells slots A) (F0 m pc ls [x]) := by
  subst hv; subst hm; subst hx
  exact W.aret C.1.1 C.1.2.1 C.2.1 hrt (va_rf_or _) (fun t ht hWm => ⟨⟨rfl, by rw [ht]; exact hW⟩, hS.F ht⟩) hS.2.2 hd C.2.2.1
/-- a local that may be null -/
theorem g_aloadq_n (C : CX cc nL own ret D ac p m c s args meth S A) {k : Fin 4} {i : Nat} {o : Option Nat} (hdg : decode cc pc = .ok (.aload_n k, 1)) (hi : (k : Nat) = i) (hl : ls[i]? = some (.val (rv z o)))
    (kk : W p l e R s m args below meth c H locs cells slots Q (F0 m (pc + 1) ls (rv z o :: rest))) : W p l e R s m args below meth c H locs cells slots Q (F0 m pc ls rest) := by
  cases o with
  | none => exact lv_aload_nN C.1.1 C.1.2.1 hdg hi hl kk
  | some a => exact lv_aload_n C.1.1 C.1.2.1 hdg hi hl kk
theorem g_aloadq (C : CX cc nL own ret D ac p m c s args meth S A) {i : Nat} {o : Option Nat} (hdg : decode cc pc = .ok (.aload i, 2)) (hl : ls[i]? = some (.val (rv z o)))
    (kk : W p l e R s m args below meth c H locs cells slots Q (F0 m (pc + 2) ls (rv z o :: rest))) : W p l e R s m args below meth c H locs cells slots Q (F0 m pc ls rest) := by
  cases o with
  | none => exact lv_aloadN C.1.1 C.1.2.1 hdg hl kk
  | some a => exact lv_aload C.1.1 C.1.2.1 hdg hl kk
theorem g_astoreq_n (C : CX cc nL own ret D ac p m c s args meth S A) {k : Fin 4} {i : Nat} {o : Option Nat} {lv lv' : List (Nat × Value)} (hdg : decode cc pc = .ok (.astore_n k, 1)) (hi : (k : Nat) = i) (h : lv_has ls nL lv) (hn : i < nL) (hl : (i, rv z o) :: lv.filter (fun q => !(q.1 == i) && !(q.1 + 1 == i && q.2.category == 2)) = lv')
    (kk : ∀ ls, lv_has ls nL lv' → W p l e R s m args below meth c H locs cells slots Q (F0 m (pc + 1) ls rest)) : W p l e R s m args below meth c H locs cells slots Q (F0 m pc ls (rv z o :: rest)) := by
  cases o with
  | none => exact lv_astore_nN C.1.1 C.1.2.1 hdg hi h hn hl kk
  | some a => exact lv_astore_n C.1.1 C.1.2.1 hdg hi h hn hl kk
theorem g_astoreq (C : CX cc nL own ret D ac p m c s args meth S A) {i : Nat} {o : Option Nat} {lv lv' : List (Nat × Value)} (hdg : decode cc pc = .ok (.astore i, 2)) (h : lv_has ls nL lv) (hn : i < nL) (hl : (i, rv z o) :: lv.filter (fun q => !(q.1 == i) && !(q.1 + 1 == i && q.2.category == 2)) = lv')
    (kk : ∀ ls, lv_has ls nL lv' → W p l e R s m args below meth c H locs cells slots Q (F0 m (pc + 2) ls rest)) : W p l e R s m args below meth c H locs cells slots Q (F0 m pc ls (rv z o :: rest)) := by
  cases o with
  | none => exact lv_astoreN C.1.1 C.1.2.1 hdg h hn hl kk
  | some a => exact lv_astore C.1.1 C.1.2.1 hdg h hn hl kk
theorem g_ifnull (C : CX cc nL own ret D ac p m c s args meth S A) {o : Option Nat} {off : Int} {tgt : Nat} (hdg : decode cc pc = .ok (.ifnull off, 3)) (ht : (pc : Int) + off = (tgt : Int))
    (kn : o = none → W p l e R s m args below meth c H locs cells slots Q (F0 m tgt ls rest)) (kj : ∀ k : Nat, o = some k → W p l e R s m args below meth c H locs cells slots Q (F0 m (pc + 3) ls rest)) : W p l e R s m args below meth c H locs cells slots Q (F0 m pc ls (rv z o :: rest)) := by
  cases o with
  | none => exact lv_ifnullN C.1.1 C.1.2.1 hdg ht (kn rfl)
  | some a => exact lv_ifnull C.1.1 C.1.2.1 hdg (kj a rfl)
theorem g_ifnonnull (C : CX cc nL own ret D ac p m c s args meth S A) {o : Option Nat} {off : Int} {tgt : Nat} (hdg : decode cc pc = .ok (.ifnonnull off, 3)) (ht : (pc : Int) + off = (tgt : Int))
    (kn : o = none → W p l e R s m args below meth c H locs cells slots Q (F0 m (pc + 3) ls rest)) (kj : ∀ k : Nat, o = some k → W p l e R s m args below meth c H locs cells slots Q (F0 m tgt ls rest)) : W p l e R s m args below meth c H locs cells slots Q (F0 m pc ls (rv z o :: rest)) := by
  cases o with
  | none => exact lv_ifnonnullN C.1.1 C.1.2.1 hdg (kn rfl)
  | some a => exact lv_ifnonnull C.1.1 C.1.2.1 hdg ht (kj a rfl)
theorem g_aret2 {rt : FieldType} (C : CX cc nL own (some rt) D ac p m c s args meth S A) (hrt : (∃ n, rt = .object n) ∨ ∃ t, rt = .array t) (hW : Wd D E P z σ H) (hS : va_S A s.heap H locs) {a : Nat} (hd : decode cc pc = .ok (.areturn, 1)) (hv : v = some (.ref (z + a))) (hm : σ1 = σ) :
    W p l e R s m args below meth c H locs cells slots (MQ below (QV D E P z v σ1 A) args s cells slots A) (F0 m pc ls [.ref (z + a)]) := by
  subst hv; subst hm
  exact W.aret C.1.1 C.1.2.1 C.2.1 hrt (Or.inr ⟨_, rfl⟩) (fun t ht hWm => ⟨⟨rfl, by rw [ht]; exact hW⟩, hS.F ht⟩) hS.2.2 hd C.2.2.1
theorem g_swd (hx : p.tables.exec = Jvm.exec) (hb : c.code = cc) {dflt lo hi : Int} {offs : Array Int} {len : Nat} {x : Int32} {tgt : Nat} (hdg : decode cc pc = .ok (.tableswitch dflt lo hi offs, len)) (ht : (pc : Int) + dflt = (tgt : Int))
    (hin : ¬ x.toInt < lo → ¬ hi < x.toInt → offs[(x.toInt - lo).toNat]? = some dflt) (k : W p l e R s m args below meth c H locs cells slots Q (F0 m tgt ls rest)) : W p l e R s m args below meth c H locs cells slots Q (F0 m pc ls (.int x :: rest)) := by
  by_cases h1 : x.toInt < lo
  · exact lv_tableOut hx hb hdg (Or.inl h1) ht k
  · by_cases h2 : hi < x.toInt
    · exact lv_tableOut hx hb hdg (Or.inr h2) ht k
    · exact lv_tableIn hx hb hdg h1 h2 (hin h1 h2) ht k
theorem g_top {x y : Int32} (h : x = y) (kk : W p l e R s m args below meth c H locs cells slots Q (F0 m pc ls (.int y :: rest))) : W p l e R s m args below meth c H locs cells slots Q (F0 m pc ls (.int x :: rest)) := by
  subst h; exact kk
theorem g_topl {x y : Int64} (h : x = y) (kk : W p l e R s m args below meth c H locs cells slots Q (F0 m pc ls (.long y :: rest))) : W p l e R s m args below meth c H locs cells slots Q (F0 m pc ls (.long x :: rest)) := by
  subst h; exact kk
end GB
theorem nar_b {x : Int32} (h : x = 0 ∨ x = 1) : narrow .boolean (.int x) = .int x := by rcases h with rfl | rfl <;> rfl
theorem hRoom {K maxL : Nat} (h1 : 1 ≤ K) (h2 : maxL ≤ 21) : K - 1 + 1 ≤ (rma K 0 0).frames ∧ 8 + (maxL + 11) + 40 * (K - 1) ≤ (rma K 0 0).locals ∧ 0 ≤ (rma K 0 0).cells ∧ 0 ≤ (rma K 0 0).slots :=
  ⟨by show K - 1 + 1 ≤ K; omega, by show 8 + (maxL + 11) + 40 * (K - 1) ≤ 40 * K; omega, Nat.le_refl 0, Nat.le_refl 0⟩
theorem hRoomC {K : Nat} {rest : List Value} (h1 : 1 ≤ K) (h : rest = [] := by rfl) : 1 ≤ (rma K 0 0).frames ∧ (rest.map fun v => v.category).sum + (nativeFrameWords "java/lang/System" "arraycopy" 5 + 11) ≤ (rma K 0 0).locals := by
  subst h
  refine ⟨h1, ?_⟩
  show 0 + (nativeFrameWords "java/lang/System" "arraycopy" 5 + 11) ≤ 40 * K
  have : nativeFrameWords "java/lang/System" "arraycopy" 5 ≤ 20 := by decide +kernel
  omega
