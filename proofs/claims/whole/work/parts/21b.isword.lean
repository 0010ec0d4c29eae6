section
variable {p : Program} {l : Launch} {e : Env} {s : State} {m : MethodId} {args : Array Value} {below : List Frame} {meth : Method} {c : Code} {D : va_G} {ac : Nat → ClassId} {z : Nat} {aK aV : Nat → Nat} {K : Nat}
theorem c_X2_isWord {K : Nat} (hK : 5 ≤ K) {σ : Mem} {i : Nat} {v2 v3 r : Int32} (hi : i < 12) (h : f_X2_isWord σ i v2 v3 = some r) : MC l D (Ec ac z) inC z ac (z, aK, aV) (Ac z) yX2_isWord cX2_isWord 5 (some .boolean) K [.ref (z + 9), .ref (aK i), .int v2, .int v3] σ (some (.int r)) σ := sorry
end
