/-! the methods as functions of memories: printed by wip/whole/gen.py out of the decode rows -/
def f_X0_expect  (σ : Mem) (v1 : Int32) (v2 : Int32) (v3 : Int32) : Option Mem := (if v1 < 0 then some σ else (if (6 : Int32) ≤ v1 then some σ else (if v1 < (6 : Int32) then (if inb v1 6 then (if inb v1 6 then (od (ms (ms σ 78 (v1.toNatClampNeg) v2) 79 (v1.toNatClampNeg) v3) (fun σ6 : Mem => (od (ms σ6 77 2 ((σ6 77 2) ||| ((1 : Int32) <<< (v1 &&& 31)))) (fun σ7 : Mem => some σ7)))) else none) else none) else some σ)))

def f_X0_seatNext_b14 (rf_seatNext : Mem → Int32 → Int32 → Int32 → Int32 → Int32 → Option Mem)  (σ : Mem) (v4 : Int32) (v5 : Int32) : Option Mem := (if (σ 77 3) < 0 then some (ms (ms σ 77 3 v4) 77 4 v5) else (if (σ 77 3) ≤ v4 then some σ else some (ms (ms σ 77 3 v4) 77 4 v5)))

def f_X0_seatNext_b131 (rf_seatNext : Mem → Int32 → Int32 → Int32 → Int32 → Int32 → Option Mem) (s46 : Mem → Int32 → Option Mem) (σ : Mem) (v1 : Int32) (v2 : Int32) (v3 : Int32) (v4 : Int32) (v5 : Int32) (v6 : Int32) : Option Mem := (s46 σ (v6 + 1))

def f_X0_seatNext_b46 (rf_seatNext : Mem → Int32 → Int32 → Int32 → Int32 → Int32 → Option Mem)  (v1 : Int32) (v2 : Int32) (v3 : Int32) (v4 : Int32) (v5 : Int32) : Nat → Mem → Int32 → Option Mem
  | 0, _, _ => none
  | n + 1, σ, v6 => (if (6 : Int32) ≤ v6 then some σ else (if (6 : Int32) ≤ v6 then some σ else (if (((σ 77 2) >>> (v6 &&& 31)) &&& (1 : Int32)) = 0 then (f_X0_seatNext_b131 rf_seatNext (f_X0_seatNext_b46 rf_seatNext v1 v2 v3 v4 v5 n) σ v1 v2 v3 v4 v5 v6) else (if ((v2 >>> (v6 &&& 31)) &&& (1 : Int32)) = 0 then (if inb v6 6 then (if inb v6 6 then (ob (rf_seatNext σ (v1 + (1 : Int32)) (v2 ||| ((1 : Int32) <<< (v6 &&& 31))) (v3 + (σ 78 (v6.toNatClampNeg))) (v4 + (v3 * (σ 79 (v6.toNatClampNeg)))) (((v5 * (10 : Int32)) + v6) + (1 : Int32))) (fun σ12 => (f_X0_seatNext_b131 rf_seatNext (f_X0_seatNext_b46 rf_seatNext v1 v2 v3 v4 v5 n) σ12 v1 v2 v3 v4 v5 v6))) else none) else none) else (f_X0_seatNext_b131 rf_seatNext (f_X0_seatNext_b46 rf_seatNext v1 v2 v3 v4 v5 n) σ v1 v2 v3 v4 v5 v6)))))

def f_X0_seatNext (rf_seatNext : Mem → Int32 → Int32 → Int32 → Int32 → Int32 → Option Mem) (σ : Mem) (v1 : Int32) (v2 : Int32) (v3 : Int32) (v4 : Int32) (v5 : Int32) : Option Mem := (if v2 = (σ 77 2) then (f_X0_seatNext_b14 rf_seatNext σ v4 v5) else (if v1 < (6 : Int32) then (f_X0_seatNext_b46 rf_seatNext v1 v2 v3 v4 v5 FU σ (0 : Int32)) else (f_X0_seatNext_b14 rf_seatNext σ v4 v5)))

def f_X0_seatNext_F : Nat → Mem → Int32 → Int32 → Int32 → Int32 → Int32 → Option Mem
  | 0, _, _, _, _, _, _ => none
  | n + 1, σ, v1, v2, v3, v4, v5 => f_X0_seatNext (f_X0_seatNext_F n) σ v1 v2 v3 v4 v5

def f_X0_seatNext_R (σ : Mem) (v1 : Int32) (v2 : Int32) (v3 : Int32) (v4 : Int32) (v5 : Int32) : Option Mem := f_X0_seatNext_F 12 σ v1 v2 v3 v4 v5

def f_X0_findBest  (σ : Mem) : Option Mem := (ob (f_X0_seatNext_R (ms (ms σ 77 3 (-1 : Int32)) 77 4 (0 : Int32)) (0 : Int32) (0 : Int32) (0 : Int32) (0 : Int32) (0 : Int32)) (fun σ2 => some σ2))

def f_X1_become  (σ : Mem) (v0 : Nat) (v1 : Option Nat) : Option Mem := (onl v1 (some σ) (fun q1 => (od (ms (ms σ v0 0 (σ q1 0)) v0 1 ((ms σ v0 0 (σ q1 0)) q1 1)) (fun σ2 : Mem => (od (ms (ms σ2 v0 2 (σ2 q1 2)) v0 3 ((ms σ2 v0 2 (σ2 q1 2)) q1 3)) (fun σ3 : Mem => (if ((ms σ3 v0 4 (σ3 q1 4)) q1 5) = 0 ∨ ((ms σ3 v0 4 (σ3 q1 4)) q1 5) = 1 then (od (ms (ms σ3 v0 4 (σ3 q1 4)) v0 5 ((ms σ3 v0 4 (σ3 q1 4)) q1 5)) (fun σ5 : Mem => some σ5)) else none)))))))

def f_X1_growthOfYoung  (σ : Mem) (v0 : Nat) (v1 : Int32) (v2 : Int32) : Int32 := (if ((2 : Int32) * (σ v0 1)) ≤ v1 then (v2 + (1 : Int32)) else (0 : Int32))

def f_X1_isWinter  (v0 : Int32) : Int32 := (if (irm v0 (52 : Int32)) < (10 : Int32) then (1 : Int32) else (if (irm v0 (52 : Int32)) ≤ (42 : Int32) then (0 : Int32) else (1 : Int32)))

def f_X1_growth  (σ : Mem) (v0 : Nat) (v1 : Int32) (v2 : Int32) : Int32 := (if (σ v0 0) = 1 then (v2 / (2 : Int32)) else (if (σ v0 0) = 2 then (f_X1_growthOfYoung σ v0 v1 v2) else (if (σ v0 0) = 3 then ((v2 / (2 : Int32)) + ((σ v0 1) / (3 : Int32))) else (if (σ v0 0) = 4 then (if (irm v1 (4 : Int32)) = (3 : Int32) then (0 : Int32) else ((f_X1_growthOfYoung σ v0 v1 v2) + (2 : Int32))) else (if (σ v0 0) = 5 then (if (f_X1_isWinter v1) = 0 then (v2 + ((σ v0 1) / (2 : Int32))) else (v2 / (3 : Int32))) else v2)))))

def f_J9_max_7cf53  (v0 : Int32) (v1 : Int32) : Int32 := (if v0 < v1 then v1 else v0)

def f_X1_counts  (σ : Mem) (v0 : Nat) : Int32 := (if (σ v0 0) = 1 then ((2 : Int32) * (σ v0 2)) else (if (σ v0 0) = 3 then ((2 : Int32) * (σ v0 2)) else (if (σ v0 0) = 4 then (f_J9_max_7cf53 (0 : Int32) (((σ v0 2) * ((9 : Int32) - (σ v0 1))) / (10 : Int32))) else (σ v0 2))))

def f_X1_grace  (σ : Mem) (v0 : Nat) : Int32 := (if (σ v0 0) = 2 then (1 : Int32) else (if (σ v0 0) = 3 then (4 : Int32) else (if (σ v0 0) = 4 then (1 : Int32) else (0 : Int32))))

def f_X1_isOne_b25   (σ : Mem) (v0 : Nat) (v1 : Int32) : Int32 := (if v1 = (2 : Int32) then (if (σ v0 0) = (4 : Int32) then (1 : Int32) else (0 : Int32)) else (0 : Int32))

def f_X1_isOne  (σ : Mem) (v0 : Nat) (v1 : Int32) : Int32 := (if v1 = 0 then (1 : Int32) else (if v1 = (σ v0 0) then (1 : Int32) else (if v1 = (1 : Int32) then (if (σ v0 0) = (3 : Int32) then (1 : Int32) else (f_X1_isOne_b25 σ v0 v1)) else (f_X1_isOne_b25 σ v0 v1))))

def f_X1_cut  (σ : Mem) (v0 : Nat) (v1 : Int32) : Mem := (od (ms σ v0 2 (f_J9_max_7cf53 (0 : Int32) ((σ v0 2) - v1))) (fun σ1 : Mem => σ1))

def f_X2_add  (σ : Mem) (v1 : Int32) : Option Mem := (if (σ 9 1) < 0 then some σ else (if (160 : Int32) ≤ (σ 9 1) then some σ else (if inb (σ 9 1) 160 then (od (ms (ms σ 10 ((σ 9 1).toNatClampNeg) v1) 9 1 (((ms σ 10 ((σ 9 1).toNatClampNeg) v1) 9 1) + (1 : Int32))) (fun σ4 : Mem => some σ4)) else none)))

def f_X2_byteAt  (σ : Mem) (v1 : Int32) : Option Int32 := (if v1 < 0 then some (-1 : Int32) else (if (σ 9 1) ≤ v1 then some (-1 : Int32) else (if (160 : Int32) ≤ v1 then some (-1 : Int32) else (if inb v1 160 then some (σ 10 (v1.toNatClampNeg)) else none))))

def f_X2_isLetter  (v0 : Int32) : Int32 := (if v0 < (97 : Int32) then (0 : Int32) else (if (122 : Int32) < v0 then (0 : Int32) else (1 : Int32)))

def f_X2_endOfWord_b4   (σ : Mem) : Nat → Int32 → Int32 → Option Int32
  | 0, _, _ => none
  | n + 1, v2, v3 => (if (160 : Int32) ≤ v3 then some v2 else (ob (f_X2_byteAt σ v2) (fun r3 => (if (f_X2_isLetter r3) = 0 then some v2 else ((f_X2_endOfWord_b4 σ n) (v2 + 1) (v3 + 1))))))

def f_X2_endOfWord  (σ : Mem) (v1 : Int32) : Option Int32 := (f_X2_endOfWord_b4 σ FU v1 (0 : Int32))

def wlen (i : Nat) : Nat := sLen.getD i 0
def wch (i j : Nat) : Int32 := (sByt.getD i []).getD j 0
def f_X2_isWord_b15 (σ : Mem) (i : Nat) (v2 : Int32) : Nat → Int32 → Option Int32
  | 0, _ => none
  | n + 1, v4 => (if (Int32.ofNat (wlen i)) ≤ v4 then some 1 else (if inb v4 (wlen i) then (ob (f_X2_byteAt σ (v2 + v4)) (fun r => (if (wch i v4.toNatClampNeg) = r then f_X2_isWord_b15 σ i v2 n (v4 + 1) else some 0))) else none))
def f_X2_isWord (σ : Mem) (i : Nat) (v2 v3 : Int32) : Option Int32 := (if (v3 - v2) = (Int32.ofNat (wlen i)) then f_X2_isWord_b15 σ i v2 FU 0 else some 0)

def f_X2_nameToken  (σ : Mem) (v1 : Int32) (v2 : Int32) : Option Int32 := (ob (f_X2_isWord σ 6 v1 v2) (fun r2 => (if r2 = 0 then (ob (f_X2_isWord σ 7 v1 v2) (fun r5 => (if r5 = 0 then (ob (f_X2_isWord σ 8 v1 v2) (fun r8 => (if r8 = 0 then (ob (f_X2_isWord σ 9 v1 v2) (fun r11 => (if r11 = 0 then (ob (f_X2_isWord σ 10 v1 v2) (fun r14 => (if r14 = 0 then (ob (f_X2_isWord σ 11 v1 v2) (fun r17 => (if r17 = 0 then some (-40 : Int32) else some (-6 : Int32)))) else some (-5 : Int32)))) else some (-4 : Int32)))) else some (-3 : Int32)))) else some (-2 : Int32)))) else some (-1 : Int32))))

def f_X2_wordToken  (σ : Mem) (v1 : Int32) (v2 : Int32) : Option Int32 := (ob (f_X2_isWord σ 0 v1 v2) (fun r2 => (if r2 = 0 then (ob (f_X2_isWord σ 1 v1 v2) (fun r5 => (if r5 = 0 then (ob (f_X2_isWord σ 2 v1 v2) (fun r8 => (if r8 = 0 then (ob (f_X2_isWord σ 3 v1 v2) (fun r11 => (if r11 = 0 then (ob (f_X2_isWord σ 4 v1 v2) (fun r14 => (if r14 = 0 then (ob (f_X2_isWord σ 5 v1 v2) (fun r17 => (if r17 = 0 then (ob (f_X2_nameToken σ v1 v2) (fun r20 => some r20)) else some (-17 : Int32)))) else some (-11 : Int32)))) else some (-10 : Int32)))) else some (-22 : Int32)))) else some (-21 : Int32)))) else some (-20 : Int32))))

def f_X2_addToken  (σ : Mem) (v1 : Int32) (v2 : Int32) : Option Mem := (if (σ 9 4) < 0 then some σ else (if (161 : Int32) ≤ (σ 9 4) then some σ else (if (161 : Int32) ≤ (σ 9 4) then some σ else (if inb (σ 9 4) 161 then (if inb ((ms σ 11 ((σ 9 4).toNatClampNeg) v1) 9 4) 161 then (od (ms (ms σ 11 ((σ 9 4).toNatClampNeg) v1) 12 (((ms σ 11 ((σ 9 4).toNatClampNeg) v1) 9 4).toNatClampNeg) v2) (fun σ6 : Mem => some (ms σ6 9 4 ((σ6 9 4) + (1 : Int32))))) else none) else none))))

def f_X2_isDigit  (v0 : Int32) : Int32 := (if v0 < (48 : Int32) then (0 : Int32) else (if (57 : Int32) < v0 then (0 : Int32) else (1 : Int32)))

def f_X2_endOfNumber_b4   (σ : Mem) : Nat → Int32 → Int32 → Option Int32
  | 0, _, _ => none
  | n + 1, v2, v3 => (if (160 : Int32) ≤ v3 then some v2 else (ob (f_X2_byteAt σ v2) (fun r3 => (if (f_X2_isDigit r3) = 0 then some v2 else ((f_X2_endOfNumber_b4 σ n) (v2 + 1) (v3 + 1))))))

def f_X2_endOfNumber  (σ : Mem) (v1 : Int32) : Option Int32 := (f_X2_endOfNumber_b4 σ FU v1 (0 : Int32))

def f_X2_numberToken_b15   (σ : Mem) (v2 : Int32) : Nat → Int32 → Int32 → Option Int32
  | 0, _, _ => none
  | n + 1, v3, v4 => (if v2 ≤ v4 then some v3 else (ob (f_X2_byteAt σ v4) (fun r4 => (od (((v3 * (10 : Int32)) + r4) - (48 : Int32)) (fun x5 : Int32 => ((f_X2_numberToken_b15 σ v2 n) x5 (v4 + 1)))))))

def f_X2_numberToken  (σ : Mem) (v1 : Int32) (v2 : Int32) : Option Int32 := (if (v2 - v1) ≤ (4 : Int32) then (f_X2_numberToken_b15 σ v2 FU (0 : Int32) v1) else some (-40 : Int32))

def f_X2_signToken  (v0 : Int32) : Int32 := (if v0 = 40 then (-30 : Int32) else (if v0 = 41 then (-31 : Int32) else (if v0 = 42 then (-16 : Int32) else (if v0 = 43 then (-14 : Int32) else (if v0 = 45 then (-15 : Int32) else (if v0 = 59 then (-32 : Int32) else (if v0 = 60 then (-12 : Int32) else (if v0 = 61 then (-13 : Int32) else (-40 : Int32)))))))))

def f_X2_splitTape_b114  (s9 : Mem → Int32 → Int32 → Option Mem) (σ : Mem) (v2 : Int32) (v4 : Int32) : Option Mem := (s9 σ v4 (v2 + 1))

def f_X2_splitTape_b9   : Nat → Mem → Int32 → Int32 → Option Mem
  | 0, _, _, _ => none
  | n + 1, σ, v1, v2 => (if (160 : Int32) ≤ v2 then (ob (f_X2_addToken σ (-41 : Int32) (σ 9 1)) (fun σ3 => some σ3)) else (if (σ 9 1) ≤ v1 then (ob (f_X2_addToken σ (-41 : Int32) (σ 9 1)) (fun σ6 => some σ6)) else (ob (f_X2_byteAt σ v1) (fun r8 => (if (f_X2_isLetter r8) = 0 then (if (f_X2_isDigit r8) = 0 then (if r8 = (32 : Int32) then (f_X2_splitTape_b114 (f_X2_splitTape_b9  n) σ v2 (v1 + (1 : Int32))) else (if r8 = (10 : Int32) then (f_X2_splitTape_b114 (f_X2_splitTape_b9  n) σ v2 (v1 + (1 : Int32))) else (ob (f_X2_addToken σ (f_X2_signToken r8) v1) (fun σ14 => (f_X2_splitTape_b114 (f_X2_splitTape_b9  n) σ14 v2 (v1 + (1 : Int32))))))) else (ob (f_X2_endOfNumber σ v1) (fun r16 => (ob (f_X2_numberToken σ v1 r16) (fun r18 => (ob (f_X2_addToken σ r18 v1) (fun σ20 => (f_X2_splitTape_b114 (f_X2_splitTape_b9  n) σ20 v2 r16)))))))) else (ob (f_X2_endOfWord σ v1) (fun r22 => (ob (f_X2_wordToken σ v1 r22) (fun r24 => (ob (f_X2_addToken σ r24 v1) (fun σ26 => (f_X2_splitTape_b114 (f_X2_splitTape_b9  n) σ26 v2 r22))))))))))))

def f_X2_splitTape  (σ : Mem) : Option Mem := (f_X2_splitTape_b9 FU (ms σ 9 4 (0 : Int32)) (0 : Int32) (0 : Int32))

def f_X2_current  (σ : Mem) : Option Int32 := (if (σ 9 5) < 0 then some (-41 : Int32) else (if (σ 9 4) ≤ (σ 9 5) then some (-41 : Int32) else (if (161 : Int32) ≤ (σ 9 5) then some (-41 : Int32) else (if inb (σ 9 5) 161 then some (σ 11 ((σ 9 5).toNatClampNeg)) else none))))

def f_X2_skip  (σ : Mem) (v1 : Int32) : Option (Int32 × Mem) := (ob (f_X2_current σ) (fun r2 => (if r2 = v1 then some ((1 : Int32), (ms σ 9 5 ((σ 9 5) + (1 : Int32)))) else some ((0 : Int32), σ))))

def f_X2_emit  (σ : Mem) (v1 : Int32) : Option Mem := (if (σ 9 7) < 0 then some σ else (if (160 : Int32) ≤ (σ 9 7) then some σ else (if inb (σ 9 7) 160 then (od (ms (ms σ 13 ((σ 9 7).toNatClampNeg) v1) 9 7 (((ms σ 13 ((σ 9 7).toNatClampNeg) v1) 9 7) + (1 : Int32))) (fun σ4 : Mem => some σ4)) else none)))

def f_X2_readOne_b40 (rf_readOr : Mem → Int32 → Option (Int32 × Mem)) (rf_readOne : Mem → Int32 → Option (Int32 × Mem))  (σ : Mem) (v1 : Int32) (v2 : Int32) : Option (Int32 × Mem) := (if v1 < (5 : Int32) then (if v2 = (-30 : Int32) then (ob2 (rf_readOr (ms σ 9 5 ((σ 9 5) + (1 : Int32))) (v1 + (1 : Int32))) (fun r16 σ17 => (if r16 = 0 then some ((0 : Int32), σ17) else (ob2 (f_X2_skip σ17 (-31 : Int32)) (fun r20 σ21 => (if r20 = 0 then some ((0 : Int32), σ21) else some ((1 : Int32), σ21))))))) else (ob2 (rf_readOne (ms σ 9 5 ((σ 9 5) + (1 : Int32))) (v1 + (1 : Int32))) (fun r11 σ12 => (ob (f_X2_emit σ12 (-18 : Int32)) (fun σ14 => (if r11 = 0 ∨ r11 = 1 then some (r11, σ14) else none)))))) else some ((0 : Int32), σ))

def f_X2_readOne (rf_readOr : Mem → Int32 → Option (Int32 × Mem)) (rf_readOne : Mem → Int32 → Option (Int32 × Mem)) (σ : Mem) (v1 : Int32) : Option (Int32 × Mem) := (ob (f_X2_current σ) (fun r2 => (if r2 < (-6 : Int32) then (if r2 = (-15 : Int32) then (f_X2_readOne_b40 rf_readOr rf_readOne σ v1 r2) else (if r2 = (-30 : Int32) then (f_X2_readOne_b40 rf_readOr rf_readOne σ v1 r2) else some ((0 : Int32), σ))) else (ob (f_X2_emit σ r2) (fun σ7 => some ((1 : Int32), (ms σ7 9 5 ((σ7 9 5) + (1 : Int32)))))))))

def f_X2_readTerm_b12 (rf_readOne : Mem → Int32 → Option (Int32 × Mem))  (v1 : Int32) : Nat → Mem → Int32 → Option (Int32 × Mem)
  | 0, _, _ => none
  | n + 1, σ, v2 => (if (160 : Int32) ≤ v2 then some ((1 : Int32), σ) else (ob2 (f_X2_skip σ (-16 : Int32)) (fun r7 σ8 => (if r7 = 0 then some ((1 : Int32), σ8) else (ob2 (rf_readOne σ8 v1) (fun r11 σ12 => (if r11 = 0 then some ((0 : Int32), σ12) else (ob (f_X2_emit σ12 (-16 : Int32)) (fun σ15 => ((f_X2_readTerm_b12 rf_readOne v1 n) σ15 (v2 + 1)))))))))))

def f_X2_readTerm (rf_readOne : Mem → Int32 → Option (Int32 × Mem)) (σ : Mem) (v1 : Int32) : Option (Int32 × Mem) := (ob2 (rf_readOne σ v1) (fun r2 σ3 => (if r2 = 0 then some ((0 : Int32), σ3) else (f_X2_readTerm_b12 rf_readOne v1 FU σ3 (0 : Int32)))))

def f_X2_readSum_b38 (rf_readTerm : Mem → Int32 → Option (Int32 × Mem)) (s12 : Mem → Int32 → Option (Int32 × Mem)) (σ : Mem) (v1 : Int32) (v2 : Int32) (v3 : Int32) : Option (Int32 × Mem) := (ob2 (rf_readTerm (ms σ 9 5 ((σ 9 5) + (1 : Int32))) v1) (fun r11 σ12 => (if r11 = 0 then some ((0 : Int32), σ12) else (ob (f_X2_emit σ12 v3) (fun σ15 => (s12 σ15 (v2 + 1)))))))

def f_X2_readSum_b12 (rf_readTerm : Mem → Int32 → Option (Int32 × Mem))  (v1 : Int32) : Nat → Mem → Int32 → Option (Int32 × Mem)
  | 0, _, _ => none
  | n + 1, σ, v2 => (if (160 : Int32) ≤ v2 then some ((1 : Int32), σ) else (ob (f_X2_current σ) (fun r7 => (if r7 = (-14 : Int32) then (f_X2_readSum_b38 rf_readTerm (f_X2_readSum_b12 rf_readTerm v1 n) σ v1 v2 r7) else (if r7 = (-15 : Int32) then (f_X2_readSum_b38 rf_readTerm (f_X2_readSum_b12 rf_readTerm v1 n) σ v1 v2 r7) else some ((1 : Int32), σ))))))

def f_X2_readSum (rf_readTerm : Mem → Int32 → Option (Int32 × Mem)) (σ : Mem) (v1 : Int32) : Option (Int32 × Mem) := (ob2 (rf_readTerm σ v1) (fun r2 σ3 => (if r2 = 0 then some ((0 : Int32), σ3) else (f_X2_readSum_b12 rf_readTerm v1 FU σ3 (0 : Int32)))))

def f_X2_readNot_b71 (rf_readNot : Mem → Int32 → Option (Int32 × Mem)) (rf_readSum : Mem → Int32 → Option (Int32 × Mem))  (σ : Mem) (v1 : Int32) (v2 : Int32) : Option (Int32 × Mem) := (ob2 (rf_readSum (ms σ 9 5 ((σ 9 5) + (1 : Int32))) v1) (fun r19 σ20 => (ob (f_X2_emit σ20 v2) (fun σ22 => (if r19 = 0 ∨ r19 = 1 then some (r19, σ22) else none)))))

def f_X2_readNot (rf_readNot : Mem → Int32 → Option (Int32 × Mem)) (rf_readSum : Mem → Int32 → Option (Int32 × Mem)) (σ : Mem) (v1 : Int32) : Option (Int32 × Mem) := (ob (f_X2_current σ) (fun r2 => (if r2 = (-17 : Int32) then (if v1 < (5 : Int32) then (ob2 (rf_readNot (ms σ 9 5 ((σ 9 5) + (1 : Int32))) (v1 + (1 : Int32))) (fun r14 σ15 => (ob (f_X2_emit σ15 (-17 : Int32)) (fun σ17 => (if r14 = 0 ∨ r14 = 1 then some (r14, σ17) else none))))) else some ((0 : Int32), σ)) else (ob2 (rf_readSum σ v1) (fun r5 σ6 => (if r5 = 0 then some ((0 : Int32), σ6) else (ob (f_X2_current σ6) (fun r9 => (if r9 = (-12 : Int32) then (f_X2_readNot_b71 rf_readNot rf_readSum σ6 v1 r9) else (if r9 = (-13 : Int32) then (f_X2_readNot_b71 rf_readNot rf_readSum σ6 v1 r9) else some ((1 : Int32), σ6)))))))))))

def f_X2_readAnd_b12 (rf_readNot : Mem → Int32 → Option (Int32 × Mem))  (v1 : Int32) : Nat → Mem → Int32 → Option (Int32 × Mem)
  | 0, _, _ => none
  | n + 1, σ, v2 => (if (160 : Int32) ≤ v2 then some ((1 : Int32), σ) else (ob2 (f_X2_skip σ (-11 : Int32)) (fun r7 σ8 => (if r7 = 0 then some ((1 : Int32), σ8) else (ob2 (rf_readNot σ8 v1) (fun r11 σ12 => (if r11 = 0 then some ((0 : Int32), σ12) else (ob (f_X2_emit σ12 (-11 : Int32)) (fun σ15 => ((f_X2_readAnd_b12 rf_readNot v1 n) σ15 (v2 + 1)))))))))))

def f_X2_readAnd (rf_readNot : Mem → Int32 → Option (Int32 × Mem)) (σ : Mem) (v1 : Int32) : Option (Int32 × Mem) := (ob2 (rf_readNot σ v1) (fun r2 σ3 => (if r2 = 0 then some ((0 : Int32), σ3) else (f_X2_readAnd_b12 rf_readNot v1 FU σ3 (0 : Int32)))))

def f_X2_readOr_b12 (rf_readAnd : Mem → Int32 → Option (Int32 × Mem))  (v1 : Int32) : Nat → Mem → Int32 → Option (Int32 × Mem)
  | 0, _, _ => none
  | n + 1, σ, v2 => (if (160 : Int32) ≤ v2 then some ((1 : Int32), σ) else (ob2 (f_X2_skip σ (-10 : Int32)) (fun r7 σ8 => (if r7 = 0 then some ((1 : Int32), σ8) else (ob2 (rf_readAnd σ8 v1) (fun r11 σ12 => (if r11 = 0 then some ((0 : Int32), σ12) else (ob (f_X2_emit σ12 (-10 : Int32)) (fun σ15 => ((f_X2_readOr_b12 rf_readAnd v1 n) σ15 (v2 + 1)))))))))))

def f_X2_readOr (rf_readAnd : Mem → Int32 → Option (Int32 × Mem)) (σ : Mem) (v1 : Int32) : Option (Int32 × Mem) := (ob2 (rf_readAnd σ v1) (fun r2 σ3 => (if r2 = 0 then some ((0 : Int32), σ3) else (f_X2_readOr_b12 rf_readAnd v1 FU σ3 (0 : Int32)))))

def f_X2_rec : Nat → Nat → Mem → Int32 → Option (Int32 × Mem)
  | 0, _, _, _ => none
  | n + 1, 0, σ, v => f_X2_readOne (f_X2_rec n 2) (f_X2_rec n 0) σ v
  | n + 1, 1, σ, v => f_X2_readNot (f_X2_rec n 1) (f_X2_readSum (f_X2_readTerm (f_X2_readOne (f_X2_rec n 2) (f_X2_rec n 0)))) σ v
  | n + 1, _ + 2, σ, v => f_X2_readOr (f_X2_readAnd (f_X2_readNot (f_X2_rec n 1) (f_X2_readSum (f_X2_readTerm (f_X2_readOne (f_X2_rec n 2) (f_X2_rec n 0)))))) σ v
def f_X2_readOr_R (σ : Mem) (v : Int32) : Option (Int32 × Mem) := f_X2_rec 12 2 σ v

def f_X2_readPart  (σ : Mem) (v1 : Int32) (v2 : Int32) : Option (Int32 × Mem) := (ob2 (f_X2_skip σ v2) (fun r2 σ3 => (if r2 = 0 then some ((0 : Int32), σ3) else (ob2 (f_X2_readOr_R σ3 (0 : Int32)) (fun r6 σ7 => (if r6 = 0 then some ((0 : Int32), σ7) else (ob2 (f_X2_skip σ7 (-32 : Int32)) (fun r10 σ11 => (if r10 = 0 then some ((0 : Int32), σ11) else (if v1 < 0 then some ((0 : Int32), σ11) else (if v1 < (3 : Int32) then (if inb v1 3 then some ((1 : Int32), (ms σ11 14 (v1.toNatClampNeg) (σ11 9 7))) else none) else some ((0 : Int32), σ11))))))))))))

def f_X2_read_b58   (σ : Mem) (k0 : Int32) : Option (Int32 × Mem) := (if k0 = 0 then (if (σ 9 5) < 0 then some ((σ 9 1), σ) else (if (161 : Int32) ≤ (σ 9 5) then some ((σ 9 1), σ) else (if inb (σ 9 5) 161 then some ((σ 12 ((σ 9 5).toNatClampNeg)), σ) else none))) else some ((-1 : Int32), σ))

def f_X2_read_b57   (σ : Mem) : Option (Int32 × Mem) := (f_X2_read_b58 σ (0 : Int32))

def f_X2_read  (σ : Mem) : Option (Int32 × Mem) := (ob (f_X2_splitTape σ) (fun σ2 => (ob2 (f_X2_readPart (ms (ms σ2 9 5 (0 : Int32)) 9 7 (0 : Int32)) (0 : Int32) (-20 : Int32)) (fun r4 σ5 => (if r4 = 0 then (f_X2_read_b57 σ5) else (ob2 (f_X2_readPart σ5 (1 : Int32) (-21 : Int32)) (fun r8 σ9 => (if r8 = 0 then (f_X2_read_b57 σ9) else (ob2 (f_X2_readPart σ9 (2 : Int32) (-22 : Int32)) (fun r12 σ13 => (if r12 = 0 then (f_X2_read_b57 σ13) else (ob (f_X2_current σ13) (fun r16 => (if r16 = (-41 : Int32) then (f_X2_read_b58 σ13 (1 : Int32)) else (f_X2_read_b57 σ13)))))))))))))))

def f_X5_partOf  (σ : Mem) (v0 : Nat) (v1 : Int32) : Nat := (if v1 = 0 then (v0 + 1) else (if v1 = (1 : Int32) then (v0 + 2) else (v0 + 3)))


def f_X3_operand  (σ : Mem) (v1 : Int32) : Option Int32 := (if v1 < 0 then (if ((-1 : Int32) - v1) < 0 then some (0 : Int32) else (if (6 : Int32) ≤ ((-1 : Int32) - v1) then some (0 : Int32) else (if inb ((-1 : Int32) - v1) 6 then some (σ 4 (((-1 : Int32) - v1).toNatClampNeg)) else none))) else some v1)

def f_X3_joined  (v0 : Int32) (v1 : Int32) (v2 : Int32) : Int32 := (if v0 = -16 then (v1 * v2) else (if v0 = -15 then (v1 - v2) else (if v0 = -14 then (v1 + v2) else (if v0 = -13 then (if v1 = v2 then (1 : Int32) else (0 : Int32)) else (if v0 = -12 then (if v2 ≤ v1 then (0 : Int32) else (1 : Int32)) else (if v0 = -11 then (if v1 = 0 then (0 : Int32) else (if v2 = 0 then (0 : Int32) else (1 : Int32))) else (if v0 = -10 then (if v1 = 0 then (if v2 = 0 then (0 : Int32) else (1 : Int32)) else (1 : Int32)) else (0 : Int32))))))))

def f_X3_worth_b177  (s4 : Mem → Int32 → Int32 → Option (Int32 × Mem)) (σ : Mem) (v1 : Nat) (v2 : Int32) (v3 : Int32) : Option (Int32 × Mem) := (s4 σ v2 (v3 + 1))

def f_X3_worth_b125  (s4 : Mem → Int32 → Int32 → Option (Int32 × Mem)) (σ : Mem) (v1 : Nat) (v2 : Int32) (v3 : Int32) (k1 : Int32) (k2 : Int32) : Option (Int32 × Mem) := (if inb k1 64 then (f_X3_worth_b177 s4 (ms σ 3 (k1.toNatClampNeg) k2) v1 v2 v3) else none)

def f_X3_worth_b69  (s4 : Mem → Int32 → Int32 → Option (Int32 × Mem)) (σ : Mem) (v1 : Nat) (v2 : Int32) (v3 : Int32) (v4 : Int32) : Option (Int32 × Mem) := (if v2 < (1 : Int32) then some ((0 : Int32), σ) else (if v2 ≤ (64 : Int32) then (if inb (v2 - (1 : Int32)) 64 then (if v4 = (-18 : Int32) then (f_X3_worth_b125 s4 σ v1 v2 v3 (v2 - (1 : Int32)) (-(σ 3 ((v2 - (1 : Int32)).toNatClampNeg)))) else (if (σ 3 ((v2 - (1 : Int32)).toNatClampNeg)) = 0 then (f_X3_worth_b125 s4 σ v1 v2 v3 (v2 - (1 : Int32)) (1 : Int32)) else (f_X3_worth_b125 s4 σ v1 v2 v3 (v2 - (1 : Int32)) (0 : Int32)))) else none) else some ((0 : Int32), σ)))

def f_X3_worth_b4   (v1 : Nat) : Nat → Mem → Int32 → Int32 → Option (Int32 × Mem)
  | 0, _, _, _ => none
  | n + 1, σ, v2, v3 => (if (Int32.ofNat (alen σ v1)) ≤ v3 then some ((σ 3 0), σ) else (if inb v3 (alen σ v1) then (if (σ v1 v3.toNatClampNeg) ≤ (-10 : Int32) then (if (σ v1 v3.toNatClampNeg) = (-17 : Int32) then (f_X3_worth_b69 (f_X3_worth_b4 v1 n) σ v1 v2 v3 (σ v1 v3.toNatClampNeg)) else (if (σ v1 v3.toNatClampNeg) = (-18 : Int32) then (f_X3_worth_b69 (f_X3_worth_b4 v1 n) σ v1 v2 v3 (σ v1 v3.toNatClampNeg)) else (if v2 < (2 : Int32) then some ((0 : Int32), σ) else (if v2 ≤ (64 : Int32) then (if inb (v2 - (2 : Int32)) 64 then (if inb (v2 - (1 : Int32)) 64 then (if inb (v2 - (2 : Int32)) 64 then (od (ms σ 3 ((v2 - (2 : Int32)).toNatClampNeg) (f_X3_joined (σ v1 v3.toNatClampNeg) (σ 3 ((v2 - (2 : Int32)).toNatClampNeg)) (σ 3 ((v2 - (1 : Int32)).toNatClampNeg)))) (fun σ11 : Mem => (f_X3_worth_b177 (f_X3_worth_b4 v1 n) σ11 v1 (v2 + (-1)) v3))) else none) else none) else none) else some ((0 : Int32), σ))))) else (if v2 < 0 then some ((0 : Int32), σ) else (if v2 < (64 : Int32) then (ob (f_X3_operand σ (σ v1 v3.toNatClampNeg)) (fun r15 => (if inb v2 64 then (f_X3_worth_b177 (f_X3_worth_b4 v1 n) (ms σ 3 (v2.toNatClampNeg) r15) v1 (v2 + 1) v3) else none))) else some ((0 : Int32), σ)))) else none))

def f_X3_worth  (σ : Mem) (v1 : Nat) : Option (Int32 × Mem) := (f_X3_worth_b4 v1 FU σ (0 : Int32) (0 : Int32))

def f_J9_min_7cf53  (v0 : Int32) (v1 : Int32) : Int32 := (if v1 < v0 then v1 else v0)

def f_X3_says_b31   (σ : Mem) (v2 : Int32) (v3 : Nat) (v4 : Int32) (v5 : Int32) (k0 : Option Nat) : Option (Int32 × Mem) := (onl k0 (some ((0 : Int32), σ)) (fun q5 => (od (ms (ms σ 4 0 (σ v3 2)) 4 1 ((ms σ 4 0 (σ v3 2)) v3 3)) (fun σ6 : Mem => (od (ms (ms (ms (ms σ6 4 2 (σ6 v3 1)) 4 3 v4) 4 4 v5) 4 5 ((ms (ms (ms σ6 4 2 (σ6 v3 1)) 4 3 v4) 4 4 v5) v3 4)) (fun σ7 : Mem => (ob2 (f_X3_worth σ7 (f_X5_partOf σ7 q5 v2)) (fun r9 σ10 => some ((f_J9_max_7cf53 (0 : Int32) (f_J9_min_7cf53 (99 : Int32) r9)), σ10)))))))))

def f_X3_says_b30   (σ : Mem) (v2 : Int32) (v3 : Nat) (v4 : Int32) (v5 : Int32) : Option (Int32 × Mem) := (f_X3_says_b31 σ v2 v3 v4 v5 none)

def f_X3_says  (σ : Mem) (v1 : Int32) (v2 : Int32) (v3 : Nat) (v4 : Int32) (v5 : Int32) : Option (Int32 × Mem) := (if v1 < 0 then (f_X3_says_b30 σ v2 v3 v4 v5) else (if (σ 1 1) ≤ v1 then (f_X3_says_b30 σ v2 v3 v4 v5) else (if (6 : Int32) ≤ v1 then (f_X3_says_b30 σ v2 v3 v4 v5) else (if inb v1 6 then (f_X3_says_b31 σ v2 v3 v4 v5 (tref σ v1)) else none))))

def f_X3_grown  (σ : Mem) (v1 : Int32) (v2 : Nat) (v3 : Int32) (v4 : Int32) : Option (Int32 × Mem) := (if (σ v2 5) = 0 then (ob2 (f_X3_says σ v1 (0 : Int32) v2 v3 v4) (fun r3 σ4 => (od (f_J9_max_7cf53 (0 : Int32) (f_X1_growth σ4 v2 v3 r3)) (fun x5 : Int32 => some ((f_J9_min_7cf53 (999 : Int32) ((σ4 v2 2) + x5)), σ4))))) else some ((σ v2 2), σ))

def f_J7_fill_53178_b5   (v0 : Nat) (v1 : Int32) (v3 : Int32) : Nat → Mem → Int32 → Option Mem
  | 0, _, _ => none
  | n + 1, σ, v2 => (if v3 ≤ v2 then some σ else (if inb v2 (al v0) then ((f_J7_fill_53178_b5 v0 v1 v3 n) (ms σ v0 (v2.toNatClampNeg) v1) (v2 + 1)) else none))

def f_J7_fill_53178  (σ : Mem) (v0 : Nat) (v1 : Int32) : Option Mem := (f_J7_fill_53178_b5 v0 v1 (Int32.ofNat (al v0)) FU σ (0 : Int32))

def f_X4_makeRow  (σ : Mem) (v0 : Nat) (v1 : Int32) (v2 : Int32) : Option Mem := (ob (f_J7_fill_53178 (ms (ms σ v0 1 v1) v0 2 v2) (v0 + 1) (0 : Int32)) (fun σ2 => some σ2))

def f_X4_number  (σ : Mem) (v0 : Nat) (v1 : Int32) : Option Int32 := (if v1 < 0 then some (0 : Int32) else (if (σ v0 2) ≤ v1 then some (0 : Int32) else (if (40 : Int32) ≤ v1 then some (0 : Int32) else (if inb v1 40 then some (σ (v0 + 1) (v1.toNatClampNeg)) else none))))

def f_X4_put  (σ : Mem) (v0 : Nat) (v1 : Int32) (v2 : Int32) : Option Mem := (if v1 < 0 then some σ else (if (σ v0 2) ≤ v1 then some σ else (if v1 < (40 : Int32) then (if (σ v0 1) = 0 then (if inb v1 40 then (od (ms σ (v0 + 1) (v1.toNatClampNeg) (v2.toInt8.toInt32)) (fun σ10 : Mem => some σ10)) else none) else (if (σ v0 1) = (1 : Int32) then (if inb v1 40 then (od (ms σ (v0 + 1) (v1.toNatClampNeg) (v2.toInt16.toInt32)) (fun σ8 : Mem => some σ8)) else none) else (if inb v1 40 then some (ms σ (v0 + 1) (v1.toNatClampNeg) v2) else none))) else some σ)))

def f_X4_holds  (σ : Mem) (v0 : Nat) (v1 : Int32) (v2 : Int32) : Int32 := (if v1 < 0 then (0 : Int32) else (if v2 < 0 then (0 : Int32) else (if (σ v0 2) < v2 then (0 : Int32) else (if ((σ v0 2) - v2) < v1 then (0 : Int32) else (1 : Int32)))))

def f_X4_tellsOffers_b22   (σ : Mem) (v0 : Nat) : Nat → Int32 → Option Int32
  | 0, _ => none
  | n + 1, v1 => (if (σ v0 2) ≤ v1 then some (1 : Int32) else (ob (f_X4_number σ v0 v1) (fun r5 => (ob (f_X4_number σ v0 (v1 + (1 : Int32))) (fun r7 => (if r5 < (1 : Int32) then some (0 : Int32) else (if (200 : Int32) < r5 then some (0 : Int32) else (if r7 < 0 then some (0 : Int32) else (if r7 < (60 : Int32) then ((f_X4_tellsOffers_b22 σ v0 n) (v1 + 2)) else some (0 : Int32))))))))))

def f_X4_tellsOffers  (σ : Mem) (v0 : Nat) : Option Int32 := (if (irm (σ v0 2) (2 : Int32)) = 0 then (if (σ v0 2) ≤ (12 : Int32) then (f_X4_tellsOffers_b22 σ v0 FU (0 : Int32)) else some (0 : Int32)) else some (0 : Int32))

def f_X4_inchesOf_b28  (s4 : Int32 → Int32 → Option Int32) (σ : Mem) (v0 : Nat) (v1 : Int32) (v2 : Int32) (v3 : Int32) : Option Int32 := (s4 v2 (v3 + 1))

def f_X4_inchesOf_b4   (σ : Mem) (v0 : Nat) (v1 : Int32) : Nat → Int32 → Int32 → Option Int32
  | 0, _, _ => none
  | n + 1, v2, v3 => (if (6 : Int32) ≤ v3 then some v2 else (if ((v1 >>> (v3 &&& 31)) &&& (1 : Int32)) = 0 then (f_X4_inchesOf_b28 (f_X4_inchesOf_b4 σ v0 v1 n) σ v0 v1 v2 v3) else (ob (f_X4_number σ v0 ((2 : Int32) * v3)) (fun r4 => (f_X4_inchesOf_b28 (f_X4_inchesOf_b4 σ v0 v1 n) σ v0 v1 (v2 + r4) v3)))))

def f_X4_inchesOf  (σ : Mem) (v0 : Nat) (v1 : Int32) : Option Int32 := (f_X4_inchesOf_b4 σ v0 v1 FU (0 : Int32) (0 : Int32))

def f_X4_lastWeekOf_b32  (s4 : Int32 → Int32 → Option Int32) (σ : Mem) (v0 : Nat) (v1 : Int32) (v2 : Int32) (v3 : Int32) : Option Int32 := (s4 v2 (v3 + 1))

def f_X4_lastWeekOf_b4   (σ : Mem) (v0 : Nat) (v1 : Int32) : Nat → Int32 → Int32 → Option Int32
  | 0, _, _ => none
  | n + 1, v2, v3 => (if (6 : Int32) ≤ v3 then some v2 else (if ((v1 >>> (v3 &&& 31)) &&& (1 : Int32)) = 0 then (f_X4_lastWeekOf_b32 (f_X4_lastWeekOf_b4 σ v0 v1 n) σ v0 v1 v2 v3) else (ob (f_X4_number σ v0 (((2 : Int32) * v3) + (1 : Int32))) (fun r4 => (f_X4_lastWeekOf_b32 (f_X4_lastWeekOf_b4 σ v0 v1 n) σ v0 v1 (f_J9_max_7cf53 v2 r4) v3)))))

def f_X4_lastWeekOf  (σ : Mem) (v0 : Nat) (v1 : Int32) : Option Int32 := (f_X4_lastWeekOf_b4 σ v0 v1 FU (0 : Int32) (0 : Int32))

def f_X7_become  (σ : Mem) (v0 : Nat) (v1 : Nat) : Mem := (od (ms (ms σ v0 0 (σ v1 0)) v0 1 ((ms σ v0 0 (σ v1 0)) v1 1)) (fun σ1 : Mem => (od (ms (ms σ1 v0 2 (σ1 v1 2)) v0 3 ((ms σ1 v0 2 (σ1 v1 2)) v1 3)) (fun σ2 : Mem => (od (ms (ms σ2 v0 4 (σ2 v1 4)) v0 5 ((ms σ2 v0 4 (σ2 v1 4)) v1 5)) (fun σ3 : Mem => σ3))))))

def f_X6_become_b75   (v0 : Nat) (v1 : Nat) : Nat → Mem → Int32 → Option Mem
  | 0, _, _ => none
  | n + 1, σ, v2 => (if (8 : Int32) ≤ v2 then some σ else (if (8 : Int32) ≤ v2 then some σ else (if inb v2 8 then (if inb v2 8 then (od (f_X7_become σ (v0 + 9 + v2.toNatClampNeg) (v1 + 9 + v2.toNatClampNeg))                                                             (fun σ13 : Mem => ((f_X6_become_b75 v0 v1 n) σ13 (v2 + 1)))) else none) else none)))

def f_X6_become_b73   (σ : Mem) (v0 : Nat) (v1 : Nat) : Option Mem := (f_X6_become_b75 v0 v1 FU σ (0 : Int32))

def f_X6_become_b34   (v0 : Nat) (v1 : Nat) : Nat → Mem → Int32 → Option Mem
  | 0, _, _ => none
  | n + 1, σ, v2 => (if (6 : Int32) ≤ v2 then (f_X6_become_b73 σ v0 v1) else (if (6 : Int32) ≤ v2 then (f_X6_become_b73 σ v0 v1) else (if inb v2 6 then (if inb v2 6 then (ob (f_X1_become σ (v0 + 3 + v2.toNatClampNeg) (some (v1 + 3 + v2.toNatClampNeg))) (fun σ8 => ((f_X6_become_b34 v0 v1 n) σ8 (v2 + 1)))) else none) else none)))

def f_X6_become  (σ : Mem) (v0 : Nat) (v1 : Nat) : Option Mem := (od (ms (ms σ v0 3 (σ v1 3)) v0 4 ((ms σ v0 3 (σ v1 3)) v1 4)) (fun σ1 : Mem => (od (ms (ms σ1 v0 5 (σ1 v1 5)) v0 6 ((ms σ1 v0 5 (σ1 v1 5)) v1 6)) (fun σ2 : Mem => (f_X6_become_b34 v0 v1 FU σ2 (0 : Int32))))))

def f_X6_manAt  (σ : Mem) (v0 : Nat) (v1 : Int32) : Option (Option Nat) := (if v1 < 0 then some none else (if (σ v0 3) ≤ v1 then some none else (if (6 : Int32) ≤ v1 then some none else (if inb v1 6 then some (some (v0 + 3 + v1.toNatClampNeg)) else none))))


def f_X6_vowAt  (σ : Mem) (v0 : Nat) (v1 : Int32) : Option (Option Nat) := (if v1 < 0 then some none else (if (σ v0 4) ≤ v1 then some none else (if (8 : Int32) ≤ v1 then some none else (if inb v1 8 then some (some (v0 + 9 + v1.toNatClampNeg)) else none))))


def f_X6_addMan  (σ : Mem) (v0 : Nat) (v1 : Int32) (v2 : Int32) (v3 : Int32) : Option (Int32 × Mem) := (if v1 < 0 then some ((-2 : Int32), σ) else (if (5 : Int32) < v1 then some ((-2 : Int32), σ) else (if v2 < 0 then some ((-2 : Int32), σ) else (if v2 ≤ (9 : Int32) then (if v3 < 0 then some ((-2 : Int32), σ) else (if v3 ≤ (999 : Int32) then (if (σ v0 3) < 0 then some ((-4 : Int32), σ) else (if (σ v0 3) < (6 : Int32) then (if inb (σ v0 3) 6 then (od (ms (ms σ (v0 + 3 + (σ v0 3).toNatClampNeg) 0 v1) (v0 + 3 + (σ v0 3).toNatClampNeg) 1 v2) (fun σ10 : Mem => (od (ms σ10 (v0 + 3 + (σ v0 3).toNatClampNeg) 2 v3) (fun σ11 : Mem => (od (ms σ11 (v0 + 3 + (σ v0 3).toNatClampNeg) 3 (0 : Int32)) (fun σ12 : Mem => (od (ms σ12 (v0 + 3 + (σ v0 3).toNatClampNeg) 4 (0 : Int32)) (fun σ13 : Mem => (od (ms σ13 (v0 + 3 + (σ v0 3).toNatClampNeg) 5 (0 : Int32)) (fun σ14 : Mem => some ((((ms σ14 v0 3 ((σ14 v0 3) + (1 : Int32))) v0 3) - (1 : Int32)), (ms σ14 v0 3 ((σ14 v0 3) + (1 : Int32)))))))))))))) else none) else some ((-4 : Int32), σ))) else some ((-2 : Int32), σ))) else some ((-2 : Int32), σ)))))

def f_X6_addVow  (σ : Mem) (v0 : Nat) (v1 : Int32) (v2 : Int32) (v3 : Int32) (v4 : Int32) : Option (Int32 × Mem) := (if (σ v0 4) < 0 then some ((-4 : Int32), σ) else (if (σ v0 4) < (8 : Int32) then (if inb (σ v0 4) 8 then (od (ms (ms σ (v0 + 9 + (σ v0 4).toNatClampNeg) 0 v1) (v0 + 9 + (σ v0 4).toNatClampNeg) 1 v2) (fun σ4 : Mem => (od (ms (ms σ4 (v0 + 9 + (σ v0 4).toNatClampNeg) 2 v3) (v0 + 9 + (σ v0 4).toNatClampNeg) 3 v4) (fun σ5 : Mem => (od (ms σ5 (v0 + 9 + (σ v0 4).toNatClampNeg) 4 (0 : Int32)) (fun σ6 : Mem => (od (ms σ6 (v0 + 9 + (σ v0 4).toNatClampNeg) 5 (-1 : Int32)) (fun σ7 : Mem => some ((((ms σ7 v0 4 ((σ7 v0 4) + (1 : Int32))) v0 4) - (1 : Int32)), (ms σ7 v0 4 ((σ7 v0 4) + (1 : Int32)))))))))))) else none) else some ((-4 : Int32), σ)))

def f_X6_owed_b58  (s4 : Int32 → Int32 → Option Int32) (σ : Mem) (v0 : Nat) (v1 : Int32) (v2 : Int32) (v3 : Int32) : Option Int32 := (s4 v2 (v3 + 1))

def f_X6_owed_b4   (σ : Mem) (v0 : Nat) (v1 : Int32) : Nat → Int32 → Int32 → Option Int32
  | 0, _, _ => none
  | n + 1, v2, v3 => (if (σ v0 4) ≤ v3 then some v2 else (if (8 : Int32) ≤ v3 then some v2 else (if inb v3 8 then (if (σ (v0 + 9 + v3.toNatClampNeg) 4) = 0 then (if inb v3 8 then (if (σ (v0 + 9 + v3.toNatClampNeg) 0) = v1 then (if inb v3 8 then (f_X6_owed_b58 (f_X6_owed_b4 σ v0 v1 n) σ v0 v1 (v2 + (σ (v0 + 9 + v3.toNatClampNeg) 2)) v3) else none) else (f_X6_owed_b58 (f_X6_owed_b4 σ v0 v1 n) σ v0 v1 v2 v3)) else none) else (f_X6_owed_b58 (f_X6_owed_b4 σ v0 v1 n) σ v0 v1 v2 v3)) else none)))

def f_X6_owed  (σ : Mem) (v0 : Nat) (v1 : Int32) : Option Int32 := (f_X6_owed_b4 σ v0 v1 FU (0 : Int32) (0 : Int32))

def f_X6_owedTo_b81  (s5 : Int32 → Int32 → Option Int32) (σ : Mem) (v0 : Nat) (v1 : Int32) (v2 : Int32) (v3 : Int32) (v4 : Int32) : Option Int32 := (s5 v3 (v4 + 1))

def f_X6_owedTo_b5   (σ : Mem) (v0 : Nat) (v1 : Int32) (v2 : Int32) : Nat → Int32 → Int32 → Option Int32
  | 0, _, _ => none
  | n + 1, v3, v4 => (if (σ v0 4) ≤ v4 then some v3 else (if (8 : Int32) ≤ v4 then some v3 else (if inb v4 8 then (if (σ (v0 + 9 + v4.toNatClampNeg) 4) = 0 then (if inb v4 8 then (if (σ (v0 + 9 + v4.toNatClampNeg) 1) = v1 then (if inb v4 8 then (if ((v2 >>> ((σ (v0 + 9 + v4.toNatClampNeg) 0) &&& 31)) &&& (1 : Int32)) = 0 then (if inb v4 8 then (f_X6_owedTo_b81 (f_X6_owedTo_b5 σ v0 v1 v2 n) σ v0 v1 v2 (v3 + (σ (v0 + 9 + v4.toNatClampNeg) 2)) v4) else none) else (f_X6_owedTo_b81 (f_X6_owedTo_b5 σ v0 v1 v2 n) σ v0 v1 v2 v3 v4)) else none) else (f_X6_owedTo_b81 (f_X6_owedTo_b5 σ v0 v1 v2 n) σ v0 v1 v2 v3 v4)) else none) else (f_X6_owedTo_b81 (f_X6_owedTo_b5 σ v0 v1 v2 n) σ v0 v1 v2 v3 v4)) else none)))

def f_X6_owedTo  (σ : Mem) (v0 : Nat) (v1 : Int32) (v2 : Int32) : Option Int32 := (f_X6_owedTo_b5 σ v0 v1 v2 FU (0 : Int32) (0 : Int32))

def f_X6_matures  (σ : Mem) (v0 : Nat) (v1 : Nat) : Option Int32 := (ob (f_X6_vowAt σ v0 (σ v1 5)) (fun r2 => (onl r2 (some (σ v1 3)) (fun q3 => some (f_J9_max_7cf53 (σ v1 3) (σ q3 3))))))

def f_X6_startTally  (σ : Mem) (v0 : Nat) : Mem := (od (ms (ms (ms σ v0 7 (0 : Int32)) v0 8 (-1 : Int32)) v0 9 (-1 : Int32)) (fun σ1 : Mem => (od (ms (ms σ1 v0 10 (0 : Int32)) v0 11 (0 : Int32)) (fun σ2 : Mem => σ2))))

def f_X6_pays  (σ : Mem) (v0 : Nat) (v1 : Nat) : Option (Int32 × Mem) := (ob (f_X6_manAt σ v0 (σ v1 0)) (fun r2 => (onl r2 (some ((0 : Int32), σ)) (fun q3 => (if (σ v1 2) ≤ (f_X1_counts σ q3) then (ob (f_X6_owed σ v0 (σ v1 0)) (fun r6 => (ob2 (f_X3_says σ (σ v0 6) (1 : Int32) q3 (σ v0 5) r6) (fun r8 σ9 => (od (f_X1_cut σ9 q3 ((σ v1 2) + r8))                                                             (fun σ10 : Mem => (od (ms (ms σ10 v1 4 (1 : Int32)) v0 10 (((ms σ10 v1 4 (1 : Int32)) v0 10) + ((ms σ10 v1 4 (1 : Int32)) v1 2))) (fun σ11 : Mem => some ((1 : Int32), σ11))))))))) else some ((0 : Int32), σ))))))

def f_X6_isLate  (σ : Mem) (v0 : Nat) (v1 : Nat) : Option Int32 := (ob (f_X6_manAt σ v0 (σ v1 0)) (fun r2 => (onl r2 (some (0 : Int32)) (fun q3 => (ob (f_X6_matures σ v0 v1) (fun r5 => (if (σ v0 5) < (r5 + (f_X1_grace σ q3)) then some (0 : Int32) else some (1 : Int32))))))))

def f_X6_shear_b118   (σ : Mem) (v0 : Nat) (v1 : Int32) (v2 : Int32) : Option Mem := (if (σ v0 7) = 0 then (od (ms (ms (ms σ v0 8 v1) v0 9 v2) v0 7 (((ms (ms σ v0 8 v1) v0 9 v2) v0 7) + (1 : Int32))) (fun σ19 : Mem => some σ19)) else some (ms σ v0 7 ((σ v0 7) + (1 : Int32))))

def f_X6_shear_b112  (s55 : Mem → Int32 → Option Mem) (σ : Mem) (v0 : Nat) (v1 : Int32) (v2 : Int32) (v4 : Int32) : Option Mem := (s55 σ (v4 + 1))

def f_X6_shear_b55   (v0 : Nat) (v1 : Int32) (v2 : Int32) : Nat → Mem → Int32 → Option Mem
  | 0, _, _ => none
  | n + 1, σ, v4 => (if (σ v0 4) ≤ v4 then (f_X6_shear_b118 σ v0 v1 v2) else (if (8 : Int32) ≤ v4 then (f_X6_shear_b118 σ v0 v1 v2) else (if inb v4 8 then (if (σ (v0 + 9 + v4.toNatClampNeg) 4) = 0 then (if inb v4 8 then (if (σ (v0 + 9 + v4.toNatClampNeg) 0) = v1 then (if inb v4 8 then (od (ms σ (v0 + 9 + v4.toNatClampNeg) 4 (2 : Int32)) (fun σ17 : Mem => (f_X6_shear_b112 (f_X6_shear_b55 v0 v1 v2 n) σ17 v0 v1 v2 v4))) else none) else (f_X6_shear_b112 (f_X6_shear_b55 v0 v1 v2 n) σ v0 v1 v2 v4)) else none) else (f_X6_shear_b112 (f_X6_shear_b55 v0 v1 v2 n) σ v0 v1 v2 v4)) else none)))

def f_X6_shear  (σ : Mem) (v0 : Nat) (v1 : Int32) (v2 : Int32) : Option Mem := (ob (f_X6_manAt σ v0 v1) (fun r2 => (onl r2 (some σ) (fun q3 => (ob (f_X6_owed σ v0 v1) (fun r5 => (ob2 (f_X3_says σ (σ v0 6) (2 : Int32) q3 (σ v0 5) r5) (fun r7 σ8 => (od (ms (ms σ8 v0 11 ((σ v0 11) + r7)) q3 5 (1 : Int32)) (fun σ9 : Mem => (f_X6_shear_b55 v0 v1 v2 FU (ms σ9 q3 2 (0 : Int32)) (0 : Int32))))))))))))

def f_X6_liveWeek_b130  (s62 : Mem → Int32 → Option Mem) (σ : Mem) (v0 : Nat) (v1 : Int32) (v2 : Int32) : Option Mem := (s62 σ (v2 + 1))

def f_X6_liveWeek_b62   (v0 : Nat) (v1 : Int32) : Nat → Mem → Int32 → Option Mem
  | 0, _, _ => none
  | n + 1, σ, v2 => (if (σ v0 4) ≤ v2 then some (ms σ v0 5 ((σ v0 5) + (1 : Int32))) else (if (8 : Int32) ≤ v2 then some (ms σ v0 5 ((σ v0 5) + (1 : Int32))) else (if inb v2 8 then (if (σ (v0 + 9 + v2.toNatClampNeg) 4) = 0 then (ob (f_X6_matures σ v0 (v0 + 9 + v2.toNatClampNeg)) (fun r15 => (if (σ v0 5) < r15 then (f_X6_liveWeek_b130 (f_X6_liveWeek_b62 v0 v1 n) σ v0 v1 v2) else (ob2 (f_X6_pays σ v0 (v0 + 9 + v2.toNatClampNeg)) (fun r18 σ19 => (if r18 = 0 then (ob (f_X6_isLate σ19 v0 (v0 + 9 + v2.toNatClampNeg)) (fun r22 => (if r22 = 0 then (f_X6_liveWeek_b130 (f_X6_liveWeek_b62 v0 v1 n) σ19 v0 v1 v2) else (ob (f_X6_shear σ19 v0 (σ19 (v0 + 9 + v2.toNatClampNeg) 0) v1) (fun σ25 => (f_X6_liveWeek_b130 (f_X6_liveWeek_b62 v0 v1 n) σ25 v0 v1 v2)))))) else (f_X6_liveWeek_b130 (f_X6_liveWeek_b62 v0 v1 n) σ19 v0 v1 v2))))))) else (f_X6_liveWeek_b130 (f_X6_liveWeek_b62 v0 v1 n) σ v0 v1 v2)) else none)))

def f_X6_liveWeek_b60   (σ : Mem) (v0 : Nat) (v1 : Int32) : Option Mem := (f_X6_liveWeek_b62 v0 v1 FU σ (0 : Int32))

def f_X6_liveWeek_b2   (v0 : Nat) (v1 : Int32) : Nat → Mem → Int32 → Option Mem
  | 0, _, _ => none
  | n + 1, σ, v2 => (if (σ v0 3) ≤ v2 then (f_X6_liveWeek_b60 σ v0 v1) else (if (6 : Int32) ≤ v2 then (f_X6_liveWeek_b60 σ v0 v1) else (if inb v2 6 then (if inb v2 6 then (ob (f_X6_owed σ v0 v2) (fun r6 => (ob2 (f_X3_grown σ (σ v0 6) (v0 + 3 + v2.toNatClampNeg) (σ v0 5) r6) (fun r8 σ9 => ((f_X6_liveWeek_b2 v0 v1 n) (ms σ9 (v0 + 3 + v2.toNatClampNeg) 2 r8) (v2 + 1)))))) else none) else none)))

def f_X6_liveWeek  (σ : Mem) (v0 : Nat) (v1 : Int32) : Option Mem := (f_X6_liveWeek_b2 v0 v1 FU σ (0 : Int32))

def f_X6_drawOil_b5   (v0 : Nat) : Nat → Mem → Int64 → Int32 → Option (Int64 × Mem)
  | 0, _, _, _ => none
  | n + 1, σ, v3, v5 => (if (σ v0 3) ≤ v5 then some (v3, σ) else (if (6 : Int32) ≤ v5 then some (v3, σ) else (od (lrm (v3 * (48271 : Int64)) (2147483647 : Int64)) (fun x3 : Int64 => (if inb v5 6 then (od (ms σ (v0 + 3 + v5.toNatClampNeg) 3 ((lrm x3 (10 : Int64)).toInt32)) (fun σ5 : Mem => ((f_X6_drawOil_b5 v0 n) σ5 x3 (v5 + 1)))) else none)))))

def f_X6_drawOil  (σ : Mem) (v0 : Nat) (v1 : Int64) : Option (Int64 × Mem) := (f_X6_drawOil_b5 v0 FU σ v1 (0 : Int32))

def f_X6_closeRing_b109 (rf_closeRing : Mem → Nat → Int32 → Int32 → Int32 → Int32 → Int32 → Option Int32) (s28 : Int32 → Option Int32) (σ : Mem) (v0 : Nat) (v1 : Int32) (v2 : Int32) (v3 : Int32) (v4 : Int32) (v5 : Int32) (v6 : Int32) : Option Int32 := (s28 (v6 + 1))

def f_X6_closeRing_b28 (rf_closeRing : Mem → Nat → Int32 → Int32 → Int32 → Int32 → Int32 → Option Int32)  (σ : Mem) (v0 : Nat) (v1 : Int32) (v2 : Int32) (v3 : Int32) (v4 : Int32) (v5 : Int32) : Nat → Int32 → Option Int32
  | 0, _ => none
  | n + 1, v6 => (if (σ v0 4) ≤ v6 then some (0 : Int32) else (if (8 : Int32) ≤ v6 then some (0 : Int32) else (if inb v6 8 then (if (σ (v0 + 9 + v6.toNatClampNeg) 4) = 0 then (if (σ (v0 + 9 + v6.toNatClampNeg) 0) = v2 then (ob (rf_closeRing σ v0 v1 (σ (v0 + 9 + v6.toNatClampNeg) 1) (v3 ||| ((1 : Int32) <<< (v2 &&& 31))) (v4 ||| ((1 : Int32) <<< (v6 &&& 31))) (v5 + (1 : Int32))) (fun r10 => (if r10 = 0 then (f_X6_closeRing_b109 rf_closeRing (f_X6_closeRing_b28 rf_closeRing σ v0 v1 v2 v3 v4 v5 n) σ v0 v1 v2 v3 v4 v5 v6) else some r10))) else (f_X6_closeRing_b109 rf_closeRing (f_X6_closeRing_b28 rf_closeRing σ v0 v1 v2 v3 v4 v5 n) σ v0 v1 v2 v3 v4 v5 v6)) else (f_X6_closeRing_b109 rf_closeRing (f_X6_closeRing_b28 rf_closeRing σ v0 v1 v2 v3 v4 v5 n) σ v0 v1 v2 v3 v4 v5 v6)) else none)))

def f_X6_closeRing (rf_closeRing : Mem → Nat → Int32 → Int32 → Int32 → Int32 → Int32 → Option Int32) (σ : Mem) (v0 : Nat) (v1 : Int32) (v2 : Int32) (v3 : Int32) (v4 : Int32) (v5 : Int32) : Option Int32 := (if v2 = v1 then some v4 else (if (6 : Int32) ≤ v5 then some (0 : Int32) else (if ((v3 >>> (v2 &&& 31)) &&& (1 : Int32)) = 0 then (f_X6_closeRing_b28 rf_closeRing σ v0 v1 v2 v3 v4 v5 FU (0 : Int32)) else some (0 : Int32))))

def f_X6_closeRing_F : Nat → Mem → Nat → Int32 → Int32 → Int32 → Int32 → Int32 → Option Int32
  | 0, _, _, _, _, _, _, _ => none
  | n + 1, σ, v0, v1, v2, v3, v4, v5 => f_X6_closeRing (f_X6_closeRing_F n) σ v0 v1 v2 v3 v4 v5

def f_X6_closeRing_R (σ : Mem) (v0 : Nat) (v1 : Int32) (v2 : Int32) (v3 : Int32) (v4 : Int32) (v5 : Int32) : Option Int32 := f_X6_closeRing_F 12 σ v0 v1 v2 v3 v4 v5

def f_X6_firstRing_b75  (s2 : Int32 → Option Int32) (σ : Mem) (v0 : Nat) (v1 : Int32) : Option Int32 := (s2 (v1 + 1))

def f_X6_firstRing_b2   (σ : Mem) (v0 : Nat) : Nat → Int32 → Option Int32
  | 0, _ => none
  | n + 1, v1 => (if (σ v0 4) ≤ v1 then some (0 : Int32) else (if (8 : Int32) ≤ v1 then some (0 : Int32) else (if inb v1 8 then (if (σ (v0 + 9 + v1.toNatClampNeg) 4) = 0 then (if inb v1 8 then (if inb v1 8 then (if inb v1 8 then (ob (f_X6_closeRing_R σ v0 (σ (v0 + 9 + v1.toNatClampNeg) 0) (σ (v0 + 9 + v1.toNatClampNeg) 1) ((1 : Int32) <<< ((σ (v0 + 9 + v1.toNatClampNeg) 0) &&& 31)) ((1 : Int32) <<< (v1 &&& 31)) (1 : Int32)) (fun r9 => (if r9 = 0 then (f_X6_firstRing_b75 (f_X6_firstRing_b2 σ v0 n) σ v0 v1) else some r9))) else none) else none) else none) else (f_X6_firstRing_b75 (f_X6_firstRing_b2 σ v0 n) σ v0 v1)) else none)))

def f_X6_firstRing  (σ : Mem) (v0 : Nat) : Option Int32 := (f_X6_firstRing_b2 σ v0 FU (0 : Int32))

def f_X6_leastInches_b56  (s4 : Int32 → Int32 → Option Int32) (σ : Mem) (v0 : Nat) (v1 : Int32) (v2 : Int32) (v3 : Int32) : Option Int32 := (s4 v2 (v3 + 1))

def f_X6_leastInches_b46  (s4 : Int32 → Int32 → Option Int32) (σ : Mem) (v0 : Nat) (v1 : Int32) (v3 : Int32) : Option Int32 := (if inb v3 8 then (f_X6_leastInches_b56 s4 σ v0 v1 (σ (v0 + 9 + v3.toNatClampNeg) 2) v3) else none)

def f_X6_leastInches_b4   (σ : Mem) (v0 : Nat) (v1 : Int32) : Nat → Int32 → Int32 → Option Int32
  | 0, _, _ => none
  | n + 1, v2, v3 => (if (σ v0 4) ≤ v3 then some v2 else (if (8 : Int32) ≤ v3 then some v2 else (if ((v1 >>> (v3 &&& 31)) &&& (1 : Int32)) = 0 then (f_X6_leastInches_b56 (f_X6_leastInches_b4 σ v0 v1 n) σ v0 v1 v2 v3) else (if v2 = 0 then (f_X6_leastInches_b46 (f_X6_leastInches_b4 σ v0 v1 n) σ v0 v1 v3) else (if inb v3 8 then (if v2 ≤ (σ (v0 + 9 + v3.toNatClampNeg) 2) then (f_X6_leastInches_b56 (f_X6_leastInches_b4 σ v0 v1 n) σ v0 v1 v2 v3) else (f_X6_leastInches_b46 (f_X6_leastInches_b4 σ v0 v1 n) σ v0 v1 v3)) else none)))))

def f_X6_leastInches  (σ : Mem) (v0 : Nat) (v1 : Int32) : Option Int32 := (f_X6_leastInches_b4 σ v0 v1 FU (0 : Int32) (0 : Int32))

def f_X6_unplait  (σ : Mem) (v0 : Nat) (v1 : Nat) : Option Mem := (ob (f_X6_vowAt σ v0 (σ v1 5)) (fun r2 => (onl r2 (some (ms σ v1 5 (-1 : Int32))) (fun q3 => (od (ms (ms σ q3 5 (-1 : Int32)) v1 5 (-1 : Int32)) (fun σ4 : Mem => some σ4))))))

def f_X6_clearRing_b97  (s11 : Mem → Int32 → Int32 → Option (Int32 × Mem)) (σ : Mem) (v0 : Nat) (v1 : Int32) (v2 : Int32) (v3 : Int32) (v4 : Int32) : Option (Int32 × Mem) := (s11 σ v3 (v4 + 1))

def f_X6_clearRing_b11   (v0 : Nat) (v1 : Int32) (v2 : Int32) : Nat → Mem → Int32 → Int32 → Option (Int32 × Mem)
  | 0, _, _, _ => none
  | n + 1, σ, v3, v4 => (if (σ v0 4) ≤ v4 then some (v3, σ) else (if (8 : Int32) ≤ v4 then some (v3, σ) else (if ((v1 >>> (v4 &&& 31)) &&& (1 : Int32)) = 0 then (f_X6_clearRing_b97 (f_X6_clearRing_b11 v0 v1 v2 n) σ v0 v1 v2 v3 v4) else (if inb v4 8 then (od (ms σ (v0 + 9 + v4.toNatClampNeg) 2 ((σ (v0 + 9 + v4.toNatClampNeg) 2) - v2)) (fun σ7 : Mem => (if inb v4 8 then (if (σ7 (v0 + 9 + v4.toNatClampNeg) 2) = 0 then (if inb v4 8 then (od (ms σ7 (v0 + 9 + v4.toNatClampNeg) 4 (3 : Int32)) (fun σ11 : Mem => (if inb v4 8 then (ob (f_X6_unplait σ11 v0 (v0 + 9 + v4.toNatClampNeg)) (fun σ14 => (f_X6_clearRing_b97 (f_X6_clearRing_b11 v0 v1 v2 n) σ14 v0 v1 v2 (v3 + v2) v4))) else none))) else none) else (f_X6_clearRing_b97 (f_X6_clearRing_b11 v0 v1 v2 n) σ7 v0 v1 v2 (v3 + v2) v4)) else none))) else none))))

def f_X6_clearRing  (σ : Mem) (v0 : Nat) (v1 : Int32) : Option (Int32 × Mem) := (ob (f_X6_leastInches σ v0 v1) (fun r2 => (f_X6_clearRing_b11 v0 v1 r2 FU σ (0 : Int32) (0 : Int32))))

def f_X6_fallenNext_b51  (s4 : Int32 → Int32 → Option Int32) (σ : Mem) (v0 : Nat) (v1 : Int32) (v2 : Int32) (v3 : Int32) : Option Int32 := (s4 v2 (v3 + 1))

def f_X6_fallenNext_b4   (σ : Mem) (v0 : Nat) (v1 : Int32) : Nat → Int32 → Int32 → Option Int32
  | 0, _, _ => none
  | n + 1, v2, v3 => (if (σ v0 3) ≤ v3 then some v2 else (if (6 : Int32) ≤ v3 then some v2 else (if inb v3 6 then (ob (f_X6_owedTo σ v0 v3 v1) (fun r5 => (ob (f_X6_owed σ v0 v3) (fun r7 => (if r7 ≤ ((f_X1_counts σ (v0 + 3 + v3.toNatClampNeg)) + r5) then (f_X6_fallenNext_b51 (f_X6_fallenNext_b4 σ v0 v1 n) σ v0 v1 v2 v3) else (f_X6_fallenNext_b51 (f_X6_fallenNext_b4 σ v0 v1 n) σ v0 v1 (v2 ||| ((1 : Int32) <<< (v3 &&& 31))) v3)))))) else none)))

def f_X6_fallenNext  (σ : Mem) (v0 : Nat) (v1 : Int32) : Option Int32 := (f_X6_fallenNext_b4 σ v0 v1 FU v1 (0 : Int32))

def f_X8_count  (σ : Mem) (v1 : Int32) : Int32 := (if v1 = 0 then (σ 15 3) else (if v1 = 1 then (σ 15 4) else (if v1 = 2 then (σ 15 5) else (if v1 = 3 then (σ 1 1) else (if v1 = 4 then (σ 15 6) else (if v1 = 5 then (σ 9 1) else (-2 : Int32)))))))

def f_X8_isByte  (v0 : Int32) : Int32 := (if v0 < 0 then (0 : Int32) else (if (255 : Int32) < v0 then (0 : Int32) else (1 : Int32)))

def f_X8_feed_b118   (σ : Mem) (v1 : Int32) (v6 : Int32) : Option (Int32 × Mem) := (if v1 ≤ (4 : Int32) then some ((σ 9 1), σ) else (ob (f_X2_add σ v6) (fun σ22 => some ((σ22 9 1), σ22))))

def f_X8_feed_b104   (σ : Mem) (v1 : Int32) (v5 : Int32) (v6 : Int32) : Option (Int32 × Mem) := (if v1 ≤ (3 : Int32) then (f_X8_feed_b118 σ v1 v6) else (ob (f_X2_add σ v5) (fun σ19 => (f_X8_feed_b118 σ19 v1 v6))))

def f_X8_feed_b90   (σ : Mem) (v1 : Int32) (v4 : Int32) (v5 : Int32) (v6 : Int32) : Option (Int32 × Mem) := (if v1 ≤ (2 : Int32) then (f_X8_feed_b104 σ v1 v5 v6) else (ob (f_X2_add σ v4) (fun σ16 => (f_X8_feed_b104 σ16 v1 v5 v6))))

def f_X8_feed  (σ : Mem) (v1 : Int32) (v2 : Int32) (v3 : Int32) (v4 : Int32) (v5 : Int32) (v6 : Int32) : Option (Int32 × Mem) := (if v1 < (1 : Int32) then some ((-2 : Int32), σ) else (if (5 : Int32) < v1 then some ((-2 : Int32), σ) else (if (f_X8_isByte v2) = 0 then some ((-2 : Int32), σ) else (if (f_X8_isByte v3) = 0 then some ((-2 : Int32), σ) else (if (f_X8_isByte v4) = 0 then some ((-2 : Int32), σ) else (if (f_X8_isByte v5) = 0 then some ((-2 : Int32), σ) else (if (f_X8_isByte v6) = 0 then some ((-2 : Int32), σ) else (if ((σ 9 1) + v1) ≤ (160 : Int32) then (ob (f_X2_add σ v2) (fun σ10 => (if v1 ≤ (1 : Int32) then (f_X8_feed_b90 σ10 v1 v4 v5 v6) else (ob (f_X2_add σ10 v3) (fun σ13 => (f_X8_feed_b90 σ13 v1 v4 v5 v6)))))) else some ((-4 : Int32), σ)))))))))

def f_X8_force  (σ : Mem) (v1 : Int32) : (Int32 × Mem) := (if v1 < 0 then ((-2 : Int32), σ) else (if v1 < (σ 1 1) then ((σ 15 6), (ms σ 15 6 v1)) else ((-2 : Int32), σ)))

def f_X8_asks  (σ : Mem) (v1 : Int32) (v2 : Int32) (v3 : Int32) : Option (Int32 × Mem) := (ob (f_X6_manAt σ 15 v2) (fun r2 => (if v1 < 0 then some ((-2 : Int32), σ) else (if (3 : Int32) ≤ v1 then some ((-2 : Int32), σ) else (onl r2 (some ((-2 : Int32), σ)) (fun q5 => (if v3 < 0 then some ((-2 : Int32), σ) else (if v3 ≤ (999 : Int32) then (ob (f_X6_owed σ 15 v2) (fun r9 => (ob2 (f_X3_says σ (σ 15 6) v1 q5 v3 r9) (fun r11 σ12 => some (r11, σ12))))) else some ((-2 : Int32), σ)))))))))

def f_X8_man  (σ : Mem) (v1 : Int32) (v2 : Int32) (v3 : Int32) : Option (Int32 × Mem) := (ob2 (f_X6_addMan σ 15 v1 v2 v3) (fun r2 σ3 => some (r2, σ3)))

def f_X8_set_b44   (σ : Mem) (v2 : Int32) (v3 : Int32) (v4 : Nat) (k0 : Int32) (k1 : Int32) : Option (Int32 × Mem) := (if k0 ≤ k1 then (if v2 = 0 then some ((σ v4 2), (ms σ v4 2 v3)) else (if v2 = (1 : Int32) then some ((σ v4 3), (ms σ v4 3 v3)) else some ((σ v4 4), (ms σ v4 4 v3)))) else some ((-7 : Int32), σ))

def f_X8_set  (σ : Mem) (v1 : Int32) (v2 : Int32) (v3 : Int32) : Option (Int32 × Mem) := (ob (f_X6_manAt σ 15 v1) (fun r2 => (onl r2 (some ((-5 : Int32), σ)) (fun q3 => (if v2 < 0 then some ((-7 : Int32), σ) else (if (2 : Int32) < v2 then some ((-7 : Int32), σ) else (if v3 < 0 then some ((-7 : Int32), σ) else (if v2 = 0 then (f_X8_set_b44 σ v2 v3 q3 v3 (999 : Int32)) else (f_X8_set_b44 σ v2 v3 q3 v3 (9 : Int32))))))))))

def f_X8_told  (σ : Mem) (v1 : Int32) (v2 : Int32) : Option Int32 := (ob (f_X6_manAt σ 15 v1) (fun r2 => (onl r2 (some (-5 : Int32)) (fun q3 => (if v2 = 0 then some (σ q3 0) else (if v2 = 1 then some (σ q3 1) else (if v2 = 2 then some (σ q3 2) else (if v2 = 3 then some (σ q3 3) else (if v2 = 4 then some (σ q3 4) else (if v2 = 5 then (if (σ q3 5) = 0 then some (0 : Int32) else some (1 : Int32)) else (if v2 = 6 then some (f_X1_counts σ q3) else (if v2 = 7 then some (f_X1_grace σ q3) else (if v2 = 8 then (ob (f_X6_owed σ 15 v1) (fun r15 => some r15)) else some (-7 : Int32))))))))))))))

def f_X8_vow  (σ : Mem) (v1 : Int32) (v2 : Int32) (v3 : Int32) : Option (Int32 × Mem) := (ob (f_X6_manAt σ 15 (v1 / (10 : Int32))) (fun r2 => (onl r2 (some ((-2 : Int32), σ)) (fun q3 => (ob (f_X6_manAt σ 15 (irm v1 (10 : Int32))) (fun r5 => (onl r5 (some ((-2 : Int32), σ)) (fun q6 => (if (v1 / (10 : Int32)) = (irm v1 (10 : Int32)) then some ((-2 : Int32), σ) else (if v2 < (1 : Int32) then some ((-2 : Int32), σ) else (if (200 : Int32) < v2 then some ((-2 : Int32), σ) else (if v3 < 0 then some ((-2 : Int32), σ) else (if v3 ≤ (999 : Int32) then (if (σ q3 5) = 0 then (if (σ 15 5) ≤ v3 then (ob2 (f_X6_addVow σ 15 (v1 / (10 : Int32)) (irm v1 (10 : Int32)) v2 v3) (fun r15 σ16 => some (r15, σ16))) else some ((-3 : Int32), σ)) else some ((-3 : Int32), σ)) else some ((-2 : Int32), σ))))))))))))))

def f_X8_bond  (σ : Mem) (v1 : Int32) (v2 : Int32) : Option Int32 := (ob (f_X6_vowAt σ 15 v1) (fun r2 => (onl r2 (some (-6 : Int32)) (fun q3 => (if v2 = 0 then some (σ q3 0) else (if v2 = 1 then some (σ q3 1) else (if v2 = 2 then some (σ q3 2) else (if v2 = 3 then some (σ q3 3) else (if v2 = 4 then some (σ q3 5) else (if v2 = 5 then some (σ q3 4) else (if v2 = 6 then (ob (f_X6_matures σ 15 q3) (fun r12 => some r12)) else some (-7 : Int32))))))))))))

def f_X8_plaits  (σ : Mem) (v1 : Int32) (v2 : Int32) : Option (Int32 × Mem) := (ob (f_X6_vowAt σ 15 v1) (fun r2 => (ob (f_X6_vowAt σ 15 v2) (fun r4 => (onl r2 (some ((-6 : Int32), σ)) (fun q5 => (onl r4 (some ((-6 : Int32), σ)) (fun q6 => (if v1 = v2 then some ((-6 : Int32), σ) else (if (σ q5 4) = 0 then (if (σ q6 4) = 0 then (if 0 ≤ (σ q5 5) then some ((-3 : Int32), σ) else (if (σ q6 5) < 0 then (if (σ q5 0) = (σ q6 0) then (ob (f_X6_matures (ms (ms σ q5 5 v2) q6 5 v1) 15 q5) (fun r14 => some (r14, (ms (ms σ q5 5 v2) q6 5 v1)))) else some ((-3 : Int32), σ)) else some ((-3 : Int32), σ))) else some ((-3 : Int32), σ)) else some ((-3 : Int32), σ)))))))))))

def f_X8_pass  (σ : Mem) (v1 : Int32) (v2 : Int32) : Option (Int32 × Mem) := (ob (f_X6_vowAt σ 15 v1) (fun r2 => (onl r2 (some ((-6 : Int32), σ)) (fun q3 => (ob (f_X6_manAt σ 15 v2) (fun r5 => (onl r5 (some ((-5 : Int32), σ)) (fun q6 => (if (σ q3 0) = v2 then some ((-5 : Int32), σ) else (if (σ q3 4) = 0 then some ((σ q3 1), (ms σ q3 1 v2)) else some ((-3 : Int32), σ)))))))))))

def f_X8_live  (σ : Mem) : Option (Int32 × Mem) := (if (σ 15 5) < (999 : Int32) then (od (f_X6_startTally σ 15)                                                             (fun σ2 : Mem => (ob (f_X6_liveWeek σ2 15 (0 : Int32)) (fun σ4 => some ((σ4 15 7), σ4))))) else some ((-4 : Int32), σ))

def f_X8_ofSeason  (σ : Mem) (v1 : Int32) : Option Int32 := (if v1 = 0 then some (σ 32 7) else (if v1 = 1 then some (σ 32 8) else (if v1 = 2 then some (σ 32 9) else (if v1 = 3 then some (σ 32 10) else (if v1 = 4 then some (σ 32 11) else (ob (f_X6_manAt σ 32 (v1 - (10 : Int32))) (fun r7 => (onl r7 (ob (f_X6_vowAt σ 32 (v1 - (20 : Int32))) (fun r10 => (onl r10 (some (-7 : Int32)) (fun q11 => some (σ q11 4))))) (fun q8 => some (σ q8 2))))))))))

def f_X8_run_b33   (v1 : Int32) (v2 : Int32) : Nat → Mem → Int32 → Option (Int32 × Mem)
  | 0, _, _ => none
  | n + 1, σ, v3 => (if v1 ≤ v3 then (ob (f_X8_ofSeason σ v2) (fun r8 => some (r8, σ))) else (ob (f_X6_liveWeek σ 32 v3) (fun σ10 => ((f_X8_run_b33 v1 v2 n) σ10 (v3 + 1)))))

def f_X8_run  (σ : Mem) (v1 : Int32) (v2 : Int32) : Option (Int32 × Mem) := (if v1 < 0 then some ((-2 : Int32), σ) else (if v1 ≤ (60 : Int32) then (ob (f_X6_become σ 32 15) (fun σ4 => (od (f_X6_startTally σ4 32)                                                             (fun σ5 : Mem => (f_X8_run_b33 v1 v2 FU σ5 (0 : Int32)))))) else some ((-2 : Int32), σ)))

def f_X8_ripeWeek_b11   (v2 : Int32) (v3 : Int32) : Nat → Mem → Int32 → Option (Int32 × Mem)
  | 0, _, _ => none
  | n + 1, σ, v4 => (if (60 : Int32) ≤ v4 then some ((-1 : Int32), σ) else (ob2 (f_X3_grown σ (σ 15 6) 75 ((σ 15 5) + v4) v3) (fun r5 σ6 => (if (f_X1_counts (ms σ6 75 2 r5) 75) < v2 then ((f_X8_ripeWeek_b11 v2 v3 n) (ms σ6 75 2 r5) (v4 + 1)) else some (v4, (ms σ6 75 2 r5))))))

def f_X8_ripeWeek  (σ : Mem) (v1 : Nat) (v2 : Int32) (v3 : Int32) : Option (Int32 × Mem) := (ob (f_X1_become σ 75 (some v1)) (fun σ2 => (f_X8_ripeWeek_b11 v2 v3 FU σ2 (0 : Int32))))

def f_X8_ripe  (σ : Mem) (v1 : Int32) (v2 : Int32) : Option (Int32 × Mem) := (ob (f_X6_manAt σ 15 v1) (fun r2 => (onl r2 (some ((-5 : Int32), σ)) (fun q3 => (if v2 < 0 then some ((-7 : Int32), σ) else (if v2 ≤ (1998 : Int32) then (ob (f_X6_owed σ 15 v1) (fun r7 => (ob2 (f_X8_ripeWeek σ q3 v2 r7) (fun r9 σ10 => some (r9, σ10))))) else some ((-7 : Int32), σ)))))))

def f_X8_soonest  (σ : Mem) (v1 : Int32) (v2 : Int32) : Option (Int32 × Mem) := (ob (f_X6_manAt σ 15 v1) (fun r2 => (onl r2 (some ((-5 : Int32), σ)) (fun q3 => (if v2 < (1 : Int32) then some ((-7 : Int32), σ) else (if v2 ≤ (200 : Int32) then (if (σ q3 5) = 0 then (ob (f_X6_owed σ 15 v1) (fun r8 => (ob2 (f_X8_ripeWeek σ q3 v2 r8) (fun r10 σ11 => some (r10, σ11))))) else some ((-1 : Int32), σ)) else some ((-7 : Int32), σ)))))))

def f_X8_sheetAt  (σ : Mem) (v1 : Int32) : Option (Option Nat) := (if v1 < 0 then some none else (if (4 : Int32) ≤ v1 then some none else (if inb v1 4 then some (some (67 + 2 * v1.toNatClampNeg)) else none)))


def f_X8_canTake_b167  (s18 : Mem → Int32 → Option (Int32 × Mem)) (s76 : Mem → Int32 → Option (Int32 × Mem)) (σ : Mem) (v1 : Nat) (v2 : Int32) (v4 : Int32) (v5 : Int32) (v6 : Int32) (v7 : Int32) (v8 : Int32) : Option (Int32 × Mem) := (s76 σ (v8 + 1))

def f_X8_canTake_b76  (s18 : Mem → Int32 → Option (Int32 × Mem)) (v1 : Nat) (v2 : Int32) (v4 : Int32) (v5 : Int32) (v6 : Int32) (v7 : Int32) : Nat → Mem → Int32 → Option (Int32 × Mem)
  | 0, _, _ => none
  | n + 1, σ, v8 => (if (6 : Int32) ≤ v8 then (s18 σ (v6 + 1)) else (if ((v2 >>> (v8 &&& 31)) &&& (1 : Int32)) = 0 then (f_X8_canTake_b167 s18 (f_X8_canTake_b76 s18 v1 v2 v4 v5 v6 v7 n) σ v1 v2 v4 v5 v6 v7 v8) else (ob (f_X4_number σ v1 (((2 : Int32) * v8) + (1 : Int32))) (fun r13 => (if r13 = v6 then (ob (f_X4_number σ v1 ((2 : Int32) * v8)) (fun r16 => (if r16 ≤ (f_X1_counts σ 75) then (ob2 (f_X3_says σ (σ 15 6) (1 : Int32) 75 v7 v4) (fun r19 σ20 => (od (f_X1_cut σ20 75 (r16 + r19))                                                             (fun σ21 : Mem => (f_X8_canTake_b167 s18 (f_X8_canTake_b76 s18 v1 v2 v4 v5 v6 v7 n) σ21 v1 v2 v4 v5 v6 v7 v8))))) else some ((0 : Int32), σ)))) else (f_X8_canTake_b167 s18 (f_X8_canTake_b76 s18 v1 v2 v4 v5 v6 v7 n) σ v1 v2 v4 v5 v6 v7 v8))))))

def f_X8_canTake_b18   (v1 : Nat) (v2 : Int32) (v4 : Int32) (v5 : Int32) : Nat → Mem → Int32 → Option (Int32 × Mem)
  | 0, _, _ => none
  | n + 1, σ, v6 => (if v5 < v6 then some ((1 : Int32), σ) else (if (60 : Int32) ≤ v6 then some ((1 : Int32), σ) else (ob2 (f_X3_grown σ (σ 15 6) 75 ((σ 15 5) + v6) v4) (fun r8 σ9 => (f_X8_canTake_b76 (f_X8_canTake_b18 v1 v2 v4 v5 n) v1 v2 v4 v5 v6 ((σ 15 5) + v6) FU (ms σ9 75 2 r8) (0 : Int32))))))

def f_X8_canTake  (σ : Mem) (v1 : Nat) (v2 : Int32) (v3 : Nat) (v4 : Int32) : Option (Int32 × Mem) := (ob (f_X1_become σ 75 (some v3)) (fun σ2 => (ob (f_X4_lastWeekOf σ2 v1 v2) (fun r4 => (f_X8_canTake_b18 v1 v2 v4 r4 FU σ2 (0 : Int32))))))

def f_X8_bestOffers_b66  (s24 : Mem → Int32 → Int32 → Int32 → Option (Int32 × Mem)) (σ : Mem) (v1 : Nat) (v2 : Nat) (v3 : Int32) (v4 : Int32) (v5 : Int32) (v6 : Int32) (v7 : Int32) (v8 : Int32) : Option (Int32 × Mem) := (s24 σ v5 v6 (v8 + 1))

def f_X8_bestOffers_b24   (v1 : Nat) (v2 : Nat) (v3 : Int32) (v4 : Int32) (v7 : Int32) : Nat → Mem → Int32 → Int32 → Int32 → Option (Int32 × Mem)
  | 0, _, _, _, _ => none
  | n + 1, σ, v5, v6, v8 => (if v7 ≤ v8 then (if v4 = 0 then some (v5, σ) else some (v6, σ)) else (ob (f_X4_inchesOf σ v1 v8) (fun r5 => (if r5 ≤ v6 then (f_X8_bestOffers_b66 (f_X8_bestOffers_b24 v1 v2 v3 v4 v7 n) σ v1 v2 v3 v4 v5 v6 v7 v8) else (ob2 (f_X8_canTake σ v1 v8 v2 v3) (fun r8 σ9 => (if r8 = 0 then (f_X8_bestOffers_b66 (f_X8_bestOffers_b24 v1 v2 v3 v4 v7 n) σ9 v1 v2 v3 v4 v5 v6 v7 v8) else (f_X8_bestOffers_b66 (f_X8_bestOffers_b24 v1 v2 v3 v4 v7 n) σ9 v1 v2 v3 v4 v8 r5 v7 v8))))))))

def f_X8_bestOffers  (σ : Mem) (v1 : Nat) (v2 : Nat) (v3 : Int32) (v4 : Int32) : Option (Int32 × Mem) := (od ((1 : Int32) <<< ((f_J9_min_7cf53 (6 : Int32) ((σ v1 2) / (2 : Int32))) &&& 31)) (fun x1 : Int32 => (f_X8_bestOffers_b24 v1 v2 v3 v4 x1 FU σ (0 : Int32) (0 : Int32) (1 : Int32))))

def f_X8_take  (σ : Mem) (v1 : Int32) (v2 : Int32) (v3 : Int32) : Option (Int32 × Mem) := (ob (f_X8_sheetAt σ v1) (fun r2 => (onl r2 (some ((-2 : Int32), σ)) (fun q3 => (if (σ q3 1) = (-1 : Int32) then some ((-11 : Int32), σ) else (ob (f_X4_tellsOffers σ q3) (fun r6 => (if r6 = 0 then some ((-2 : Int32), σ) else (ob (f_X6_manAt σ 15 v2) (fun r9 => (onl r9 (some ((-5 : Int32), σ)) (fun q10 => (if v3 < 0 then some ((-7 : Int32), σ) else (if v3 ≤ (1 : Int32) then (if (σ q10 5) = 0 then (ob (f_X6_owed σ 15 v2) (fun r15 => (ob2 (f_X8_bestOffers σ q3 q10 r15 v3) (fun r17 σ18 => some (r17, σ18))))) else some ((0 : Int32), σ)) else some ((-7 : Int32), σ)))))))))))))))

def f_X8_ring  (σ : Mem) (v1 : Int32) : Option Int32 := (if v1 < 0 then some (-2 : Int32) else (if v1 ≤ (1 : Int32) then (ob (f_X6_firstRing σ 15) (fun r4 => (if v1 = 0 then some r4 else (ob (f_X6_leastInches σ 15 r4) (fun r7 => some r7))))) else some (-2 : Int32)))

def f_X8_clear_b4   : Nat → Mem → Int32 → Int32 → Option (Int32 × Mem)
  | 0, _, _, _ => none
  | n + 1, σ, v1, v2 => (if (8 : Int32) ≤ v2 then some (v1, σ) else (ob (f_X6_firstRing σ 15) (fun r3 => (if r3 = 0 then some (v1, σ) else (ob2 (f_X6_clearRing σ 15 r3) (fun r6 σ7 => ((f_X8_clear_b4  n) σ7 (v1 + r6) (v2 + 1))))))))

def f_X8_clear  (σ : Mem) : Option (Int32 × Mem) := (f_X8_clear_b4 FU σ (0 : Int32) (0 : Int32))

def f_X8_net  (σ : Mem) (v1 : Int32) : Option Int32 := (ob (f_X6_manAt σ 15 v1) (fun r2 => (onl r2 (some (-1000005 : Int32)) (fun q3 => (ob (f_X6_owedTo σ 15 v1 (0 : Int32)) (fun r5 => (ob (f_X6_owed σ 15 v1) (fun r7 => some (r5 - r7)))))))))

def f_X8_falling_b46   (σ : Mem) (v2 : Int32) (v3 : Int32) (v4 : Int32) : Option Int32 := (if v2 = 0 then some v3 else some v4)

def f_X8_falling_b8   (σ : Mem) (v2 : Int32) : Nat → Int32 → Int32 → Int32 → Option Int32
  | 0, _, _, _ => none
  | n + 1, v3, v4, v5 => (if (6 : Int32) ≤ v5 then (f_X8_falling_b46 σ v2 v3 v4) else (ob (f_X6_fallenNext σ 15 v3) (fun r3 => (if r3 = v3 then (f_X8_falling_b46 σ v2 v3 v4) else ((f_X8_falling_b8 σ v2 n) r3 (v4 + 1) (v5 + 1))))))

def f_X8_falling  (σ : Mem) (v1 : Int32) (v2 : Int32) : Option Int32 := (f_X8_falling_b8 σ v2 FU v1 (0 : Int32) (0 : Int32))

def f_X8_falls  (σ : Mem) (v1 : Int32) (v2 : Int32) : Option Int32 := (if v1 < 0 then some (-2 : Int32) else (if ((1 : Int32) <<< ((σ 15 3) &&& 31)) ≤ v1 then some (-2 : Int32) else (if v2 < 0 then some (-2 : Int32) else (if v2 ≤ (1 : Int32) then (ob (f_X8_falling σ v1 v2) (fun r6 => some r6)) else some (-2 : Int32)))))

def f_J6_bitCount_0f7a4  (v0 : Int32) : Int32 := (od (v0 - ((iush v0 (1 : Int32)) &&& (1431655765 : Int32))) (fun x1 : Int32 => (od ((x1 &&& (858993459 : Int32)) + ((iush x1 (2 : Int32)) &&& (858993459 : Int32))) (fun x2 : Int32 => (od ((x2 + (iush x2 (4 : Int32))) &&& (252645135 : Int32)) (fun x3 : Int32 => (od ((x3 + (iush x3 (8 : Int32))) + (iush (x3 + (iush x3 (8 : Int32))) (16 : Int32))) (fun x4 : Int32 => (x4 &&& (63 : Int32))))))))))

def f_X8_pillar_b57  (s19 : Int32 → Int32 → Int32 → Option Int32) (σ : Mem) (v1 : Int32) (v2 : Int32) (v3 : Int32) (v4 : Int32) : Option Int32 := (s19 v2 v3 (v4 + 1))

def f_X8_pillar_b19   (σ : Mem) (v1 : Int32) : Nat → Int32 → Int32 → Int32 → Option Int32
  | 0, _, _, _ => none
  | n + 1, v2, v3, v4 => (if (σ 15 3) ≤ v4 then (if v1 = 0 then some v2 else some v3) else (ob (f_X8_falling σ ((1 : Int32) <<< (v4 &&& 31)) (0 : Int32)) (fun r6 => (if (f_J6_bitCount_0f7a4 r6) ≤ v3 then (f_X8_pillar_b57 (f_X8_pillar_b19 σ v1 n) σ v1 v2 v3 v4) else (f_X8_pillar_b57 (f_X8_pillar_b19 σ v1 n) σ v1 v4 (f_J6_bitCount_0f7a4 r6) v4)))))

def f_X8_pillar  (σ : Mem) (v1 : Int32) : Option Int32 := (if v1 < 0 then some (-2 : Int32) else (if v1 ≤ (1 : Int32) then (f_X8_pillar_b19 σ v1 FU (-1 : Int32) (-1 : Int32) (0 : Int32)) else some (-2 : Int32)))

def f_X8_day_b124  (s31 : Mem → Int32 → Option (Int32 × Mem)) (σ : Mem) (v1 : Int32) (v2 : Int32) (v3 : Int32) : Option (Int32 × Mem) := (s31 σ (v3 + 1))

def f_X8_day_b121  (s31 : Mem → Int32 → Option (Int32 × Mem)) (σ : Mem) (v1 : Int32) (v2 : Int32) (v3 : Int32) (k1 : Int32) (k2 : Int32) (k3 : Int32) : Option (Int32 × Mem) := (ob (f_X0_expect σ k1 k2 k3) (fun σ20 => (f_X8_day_b124 s31 σ20 v1 v2 v3)))

def f_X8_day_b31   (v1 : Int32) (v2 : Int32) : Nat → Mem → Int32 → Option (Int32 × Mem)
  | 0, _, _ => none
  | n + 1, σ, v3 => (if (σ 15 3) ≤ v3 then (ob (f_X0_findBest σ) (fun σ7 => (if v2 = 0 then some ((σ7 77 3), σ7) else some ((σ7 77 4), σ7)))) else (ob (f_X6_manAt σ 15 v3) (fun r10 => (onl r10 (f_X8_day_b124 (f_X8_day_b31 v1 v2 n) σ v1 v2 v3) (fun q11 => (if (σ q11 5) = 0 then (ob (f_X6_owed σ 15 v3) (fun r14 => (ob2 (f_X3_says σ (σ 15 6) (1 : Int32) q11 (σ 15 5) r14) (fun r16 σ17 => (if v1 = 0 then (f_X8_day_b121 (f_X8_day_b31 v1 v2 n) σ17 v1 v2 v3 v3 (r16 + (1 : Int32)) (1 : Int32)) else (f_X8_day_b121 (f_X8_day_b31 v1 v2 n) σ17 v1 v2 v3 v3 (r16 + (1 : Int32)) (σ17 q11 4))))))) else (f_X8_day_b124 (f_X8_day_b31 v1 v2 n) σ v1 v2 v3)))))))

def f_X8_day  (σ : Mem) (v1 : Int32) (v2 : Int32) : Option (Int32 × Mem) := (if v1 < 0 then some ((-2 : Int32), σ) else (if (1 : Int32) < v1 then some ((-2 : Int32), σ) else (if v2 < 0 then some ((-2 : Int32), σ) else (if v2 ≤ (1 : Int32) then (f_X8_day_b31 v1 v2 FU (ms σ 77 2 (0 : Int32)) (0 : Int32)) else some ((-2 : Int32), σ)))))

def f_X8_refusalOf_  (σ : Mem) (v1 : Int32) : Option Int32 := (ob (f_X8_sheetAt σ v1) (fun r2 => (onl r2 (some (-2 : Int32)) (fun q3 => (if (σ q3 1) = (-1 : Int32) then some (-11 : Int32) else some (0 : Int32))))))

def f_X8_refusalOf  (σ : Mem) (v1 : Int32) (v2 : Int32) : Option Int32 := (ob (f_X8_refusalOf_ σ v1) (fun r2 => (if r2 = 0 then (ob (f_X6_manAt σ 15 v2) (fun r5 => (onl r5 (some (-5 : Int32)) (fun q6 => some r2)))) else some r2)))

def f_X8_otherwise_b31   (v1 : Nat) (v4 : Int32) (v5 : Int32) (v6 : Int32) : Nat → Mem → Int32 → Option (Int32 × Mem)
  | 0, _, _ => none
  | n + 1, σ, v7 => (if (σ v1 2) ≤ v7 then some ((-1 : Int32), σ) else (ob2 (f_X3_grown σ v5 75 (v4 + v7) v6) (fun r9 σ10 => (ob (f_X4_number (ms σ10 75 2 r9) v1 v7) (fun r12 => (if ((ms σ10 75 2 r9) 75 2) = r12 then ((f_X8_otherwise_b31 v1 v4 v5 v6 n) (ms σ10 75 2 r9) (v7 + 1)) else some (v7, (ms σ10 75 2 r9))))))))

def f_X8_otherwise  (σ : Mem) (v1 : Option Nat) (v2 : Int32) (v3 : Option Nat) (v4 : Int32) (v5 : Int32) : Option (Int32 × Mem) := (onl v1 (some ((-1 : Int32), σ)) (fun q1 => (onl v3 (some ((-1 : Int32), σ)) (fun q2 => (ob (f_X1_become σ 75 (some q2)) (fun σ4 => (ob (f_X6_owed σ4 15 v2) (fun r6 => (f_X8_otherwise_b31 q1 v4 v5 r6 FU σ4 (0 : Int32))))))))))

def f_X8_judge  (σ : Mem) (v1 : Int32) (v2 : Int32) : Option (Int32 × Mem) := (ob (f_X8_refusalOf σ v1 v2) (fun r2 => (if r2 = 0 then (ob (f_X8_sheetAt σ v1) (fun r5 => (ob (f_X6_manAt σ 15 v2) (fun r7 => (ob2 (f_X8_otherwise σ r5 v2 r7 (σ 15 5) (σ 15 6)) (fun r9 σ10 => some (r9, σ10))))))) else some (r2, σ))))

def f_X8_kinds_b151  (s46 : Mem → Int32 → Int32 → Option (Int32 × Mem)) (σ : Mem) (v1 : Int32) (v2 : Int32) (v3 : Int32) (v5 : Int32) (v6 : Int32) (v7 : Int32) : Option (Int32 × Mem) := (s46 σ v5 (v7 + 1))

def f_X8_kinds_b110  (s46 : Mem → Int32 → Int32 → Option (Int32 × Mem)) (σ : Mem) (v1 : Int32) (v2 : Int32) (v3 : Int32) (v5 : Int32) (v6 : Int32) (v7 : Int32) : Option (Int32 × Mem) := (ob (f_X8_sheetAt σ v1) (fun r15 => (ob2 (f_X8_otherwise σ r15 v2 (some 76) (σ 15 5) (σ 15 6)) (fun r17 σ18 => (if r17 = (-1 : Int32) then (f_X8_kinds_b151 s46 σ18 v1 v2 v3 (v5 ||| ((1 : Int32) <<< (v7 &&& 31))) v6 v7) else (f_X8_kinds_b151 s46 σ18 v1 v2 v3 v5 v6 v7))))))

def f_X8_kinds_b46   (v1 : Int32) (v2 : Int32) (v3 : Int32) (v6 : Int32) : Nat → Mem → Int32 → Int32 → Option (Int32 × Mem)
  | 0, _, _, _ => none
  | n + 1, σ, v5, v7 => (if v6 < v7 then some (v5, σ) else (ob (f_X6_manAt σ 15 v2) (fun r9 => (ob (f_X1_become σ 76 r9) (fun σ11 => (if v3 = 0 then (f_X8_kinds_b110 (f_X8_kinds_b46 v1 v2 v3 v6 n) (ms σ11 76 0 v7) v1 v2 v3 v5 v6 v7) else (if v3 = (1 : Int32) then (f_X8_kinds_b110 (f_X8_kinds_b46 v1 v2 v3 v6 n) (ms σ11 76 1 v7) v1 v2 v3 v5 v6 v7) else (f_X8_kinds_b110 (f_X8_kinds_b46 v1 v2 v3 v6 n) (ms σ11 76 3 v7) v1 v2 v3 v5 v6 v7))))))))

def f_X8_kinds_b41   (σ : Mem) (v1 : Int32) (v2 : Int32) (v3 : Int32) (v5 : Int32) (k0 : Int32) : Option (Int32 × Mem) := (f_X8_kinds_b46 v1 v2 v3 k0 FU σ v5 (0 : Int32))

def f_X8_kinds  (σ : Mem) (v1 : Int32) (v2 : Int32) (v3 : Int32) : Option (Int32 × Mem) := (ob (f_X8_refusalOf σ v1 v2) (fun r2 => (if r2 = 0 then (if v3 < 0 then some ((-7 : Int32), σ) else (if v3 ≤ (2 : Int32) then (if v3 = 0 then (f_X8_kinds_b41 σ v1 v2 v3 (0 : Int32) (5 : Int32)) else (f_X8_kinds_b41 σ v1 v2 v3 (0 : Int32) (9 : Int32))) else some ((-7 : Int32), σ))) else some (r2, σ))))

def f_X8_since_b63  (s18 : Mem → Int64 → Int32 → Option (Int64 × Mem)) (σ : Mem) (v1 : Int32) (v2 : Int32) (v3 : Int64) (v5 : Int32) : Option (Int64 × Mem) := (s18 σ v3 (v5 + 1))

def f_X8_since_b18   (v1 : Int32) (v2 : Int32) : Nat → Mem → Int64 → Int32 → Option (Int64 × Mem)
  | 0, _, _, _ => none
  | n + 1, σ, v3, v5 => (if (52 : Int32) ≤ v5 then some (v3, σ) else (ob (f_X8_sheetAt σ v1) (fun r6 => (ob (f_X6_manAt σ 15 v2) (fun r8 => (ob2 (f_X8_otherwise σ r6 v2 r8 v5 (σ 15 6)) (fun r10 σ11 => (if r10 = (-1 : Int32) then (od (v3 ||| ((1 : Int64) <<< (v5.toInt64 &&& 63))) (fun x13 : Int64 => (f_X8_since_b63 (f_X8_since_b18 v1 v2 n) σ11 v1 v2 x13 v5))) else (f_X8_since_b63 (f_X8_since_b18 v1 v2 n) σ11 v1 v2 v3 v5)))))))))

def f_X8_since  (σ : Mem) (v1 : Int32) (v2 : Int32) : Option (Int64 × Mem) := (ob (f_X8_refusalOf σ v1 v2) (fun r2 => (if r2 = 0 then (f_X8_since_b18 v1 v2 FU σ (0 : Int64) (0 : Int32)) else some ((-4611686018427387904 : Int64), σ))))

def f_X8_laws_b71  (s19 : Mem → Int32 → Int32 → Option (Int32 × Mem)) (σ : Mem) (v1 : Int32) (v2 : Int32) (v4 : Int32) (v5 : Int32) : Option (Int32 × Mem) := (s19 σ v4 (v5 + 1))

def f_X8_laws_b19   (v1 : Int32) (v2 : Int32) : Nat → Mem → Int32 → Int32 → Option (Int32 × Mem)
  | 0, _, _, _ => none
  | n + 1, σ, v4, v5 => (if (σ 1 1) ≤ v5 then some (v4, σ) else (ob (f_X8_sheetAt σ v1) (fun r6 => (ob (f_X6_manAt σ 15 v2) (fun r8 => (ob2 (f_X8_otherwise σ r6 v2 r8 (σ 15 5) v5) (fun r10 σ11 => (if r10 = (-1 : Int32) then (f_X8_laws_b71 (f_X8_laws_b19 v1 v2 n) σ11 v1 v2 (v4 ||| ((1 : Int32) <<< (v5 &&& 31))) v5) else (f_X8_laws_b71 (f_X8_laws_b19 v1 v2 n) σ11 v1 v2 v4 v5)))))))))

def f_X8_laws  (σ : Mem) (v1 : Int32) (v2 : Int32) : Option (Int32 × Mem) := (ob (f_X8_refusalOf σ v1 v2) (fun r2 => (if r2 = 0 then (f_X8_laws_b19 v1 v2 FU σ (0 : Int32) (0 : Int32)) else some (r2, σ))))

def f_X8_whose_b74  (s17 : Mem → Int32 → Int32 → Option (Int32 × Mem)) (σ : Mem) (v1 : Int32) (v3 : Int32) (v4 : Int32) : Option (Int32 × Mem) := (s17 σ v3 (v4 + 1))

def f_X8_whose_b17   (v1 : Int32) : Nat → Mem → Int32 → Int32 → Option (Int32 × Mem)
  | 0, _, _, _ => none
  | n + 1, σ, v3, v4 => (if (σ 15 3) ≤ v4 then some (v3, σ) else (ob (f_X8_sheetAt σ v1) (fun r6 => (ob (f_X6_manAt σ 15 v4) (fun r8 => (ob2 (f_X8_otherwise σ r6 v4 r8 (σ 15 5) (σ 15 6)) (fun r10 σ11 => (if r10 = (-1 : Int32) then (f_X8_whose_b74 (f_X8_whose_b17 v1 n) σ11 v1 (v3 ||| ((1 : Int32) <<< (v4 &&& 31))) v4) else (f_X8_whose_b74 (f_X8_whose_b17 v1 n) σ11 v1 v3 v4)))))))))

def f_X8_whose  (σ : Mem) (v1 : Int32) : Option (Int32 × Mem) := (ob (f_X8_refusalOf_ σ v1) (fun r2 => (if r2 = 0 then (f_X8_whose_b17 v1 FU σ (0 : Int32) (0 : Int32)) else some (r2, σ))))

def f_X8_film_b75   (v3 : Int32) (v4 : Nat) (v6 : Int32) : Nat → Mem → Int32 → Option (Int32 × Mem)
  | 0, _, _ => none
  | n + 1, σ, v7 => (if v3 ≤ v7 then some (v3, σ) else (ob2 (f_X3_grown σ (σ 15 6) 75 ((σ 15 5) + v7) v6) (fun r17 σ18 => (ob (f_X4_put (ms σ18 75 2 r17) v4 v7 ((ms σ18 75 2 r17) 75 2)) (fun σ20 => ((f_X8_film_b75 v3 v4 v6 n) σ20 (v7 + 1)))))))

def f_X8_film  (σ : Mem) (v1 : Int32) (v2 : Int32) (v3 : Int32) : Option (Int32 × Mem) := (ob (f_X8_sheetAt σ v1) (fun r2 => (onl r2 (some ((-2 : Int32), σ)) (fun q3 => (ob (f_X6_manAt σ 15 v2) (fun r5 => (onl r5 (some ((-5 : Int32), σ)) (fun q6 => (if v3 < 0 then some ((-7 : Int32), σ) else (if v3 ≤ (40 : Int32) then (ob (f_X4_makeRow σ q3 (1 : Int32) v3) (fun σ10 => (ob (f_X1_become σ10 75 (some q6)) (fun σ12 => (ob (f_X6_owed σ12 15 v2) (fun r14 => (f_X8_film_b75 v3 q3 r14 FU σ12 (0 : Int32)))))))) else some ((-7 : Int32), σ)))))))))))

def f_X8_liveByLots_b26   (v2 : Int32) : Nat → Mem → Int64 → Int32 → Option Mem
  | 0, _, _, _ => none
  | n + 1, σ, v3, v5 => (if v2 ≤ v5 then some σ else (ob2 (f_X6_drawOil σ 32 v3) (fun r6 σ7 => (ob (f_X6_liveWeek σ7 32 v5) (fun σ9 => ((f_X8_liveByLots_b26 v2 n) σ9 r6 (v5 + 1)))))))

def f_X8_liveByLots  (σ : Mem) (v1 : Int32) (v2 : Int32) : Option Mem := (ob (f_X6_become σ 32 15) (fun σ2 => (od (f_X6_startTally σ2 32)                                                             (fun σ3 : Mem => (f_X8_liveByLots_b26 v2 FU σ3 ((v1.toInt64) + (1 : Int64)) (0 : Int32))))))

def f_X8_drawn  (σ : Mem) (v1 : Int32) (v2 : Int32) (v3 : Int32) : Option (Int32 × Mem) := (if v1 < 0 then some ((-2 : Int32), σ) else (if (99999 : Int32) < v1 then some ((-2 : Int32), σ) else (if v2 < 0 then some ((-2 : Int32), σ) else (if (60 : Int32) < v2 then some ((-2 : Int32), σ) else (if v3 < 0 then some ((-2 : Int32), σ) else (if v3 ≤ (2 : Int32) then (ob (f_X8_liveByLots σ v1 v2) (fun σ8 => (if v3 = 0 then some ((σ8 32 7), σ8) else (if v3 = (1 : Int32) then some ((σ8 32 10), σ8) else some ((σ8 32 11), σ8))))) else some ((-2 : Int32), σ)))))))

def f_X8_commonDivisor_b21  (s2 : Int32 → Option Int32) (v0 : Int32) (v1 : Int32) (v2 : Int32) : Option Int32 := (s2 (v2 + (-1)))

def f_X8_commonDivisor_b2   (v0 : Int32) (v1 : Int32) : Nat → Int32 → Option Int32
  | 0, _ => none
  | n + 1, v2 => (if v2 ≤ (1 : Int32) then some (1 : Int32) else (if v2 ≠ 0 then (if (irm v0 v2) = 0 then (if v2 ≠ 0 then (if (irm v1 v2) = 0 then some v2 else (f_X8_commonDivisor_b21 (f_X8_commonDivisor_b2 v0 v1 n) v0 v1 v2)) else none) else (f_X8_commonDivisor_b21 (f_X8_commonDivisor_b2 v0 v1 n) v0 v1 v2)) else none))

def f_X8_commonDivisor  (v0 : Int32) (v1 : Int32) : Option Int32 := (f_X8_commonDivisor_b2 v0 v1 FU v1)

def f_X8_odds_b85  (s57 : Mem → Int32 → Int32 → Option (Int64 × Mem)) (σ : Mem) (v1 : Int32) (v2 : Int32) (v3 : Int32) (v4 : Int32) (v5 : Int32) (v6 : Int32) : Option (Int64 × Mem) := (s57 σ v5 (v6 + 1))

def f_X8_odds_b57   (v1 : Int32) (v2 : Int32) (v3 : Int32) (v4 : Int32) : Nat → Mem → Int32 → Int32 → Option (Int64 × Mem)
  | 0, _, _, _ => none
  | n + 1, σ, v5, v6 => (if v2 ≤ v6 then (ob (f_X8_commonDivisor v5 v2) (fun r11 => (if r11 = 0 then some ((-4611686018427387904 : Int64), σ) else (if v4 = 0 then (if r11 ≠ 0 then some (((v5 / r11).toInt64), σ) else none) else (if r11 ≠ 0 then some (((v2 / r11).toInt64), σ) else none))))) else (ob (f_X8_liveByLots σ (v1 + v6) v3) (fun σ17 => (if (σ17 32 7) = 0 then (f_X8_odds_b85 (f_X8_odds_b57 v1 v2 v3 v4 n) σ17 v1 v2 v3 v4 (v5 + 1) v6) else (f_X8_odds_b85 (f_X8_odds_b57 v1 v2 v3 v4 n) σ17 v1 v2 v3 v4 v5 v6)))))

def f_X8_odds  (σ : Mem) (v1 : Int32) (v2 : Int32) (v3 : Int32) (v4 : Int32) : Option (Int64 × Mem) := (if v1 < 0 then some ((-4611686018427387904 : Int64), σ) else (if (99999 : Int32) < v1 then some ((-4611686018427387904 : Int64), σ) else (if v2 < (1 : Int32) then some ((-4611686018427387904 : Int64), σ) else (if v2 ≤ (20 : Int32) then (if v3 < 0 then some ((-4611686018427387904 : Int64), σ) else (if (60 : Int32) < v3 then some ((-4611686018427387904 : Int64), σ) else (if v4 < 0 then some ((-4611686018427387904 : Int64), σ) else (if v4 ≤ (1 : Int32) then (f_X8_odds_b57 v1 v2 v3 v4 FU σ (0 : Int32) (0 : Int32)) else some ((-4611686018427387904 : Int64), σ))))) else some ((-4611686018427387904 : Int64), σ)))))

def f_X8_image  (σ : Mem) : Option (Int32 × Mem) := (ob (f_X6_become σ 49 15) (fun σ2 => some (((ms σ2 0 5 (1 : Int32)) 15 3), (ms σ2 0 5 (1 : Int32)))))

def f_X8_back  (σ : Mem) : Option (Int32 × Mem) := (if (σ 0 5) = 0 then some ((-3 : Int32), σ) else (ob (f_X6_become σ 15 49) (fun σ3 => some ((σ3 15 3), σ3))))

def f_X8_sheet  (σ : Mem) (v1 : Int32) (v2 : Int32) (v3 : Int32) : Option (Int32 × Mem) := (ob (f_X8_sheetAt σ v1) (fun r2 => (onl r2 (some ((-2 : Int32), σ)) (fun q3 => (if v2 < (-1 : Int32) then some ((-2 : Int32), σ) else (if v2 ≤ (2 : Int32) then (if v2 = (-1 : Int32) then (ob (f_X4_makeRow σ q3 (-1 : Int32) (0 : Int32)) (fun σ12 => some ((1 : Int32), σ12))) else (if v3 ≤ (40 : Int32) then (if 0 ≤ v3 then (ob (f_X4_makeRow σ q3 v2 v3) (fun σ10 => some ((1 : Int32), σ10))) else some ((-14 : Int32), σ)) else some ((-2 : Int32), σ))) else some ((-2 : Int32), σ)))))))

def f_X8_cell  (σ : Mem) (v1 : Int32) (v2 : Int32) (v3 : Int32) : Option (Int32 × Mem) := (ob (f_X8_sheetAt σ v1) (fun r2 => (onl r2 (some ((-2 : Int32), σ)) (fun q3 => (if (σ q3 1) = (-1 : Int32) then some ((-11 : Int32), σ) else (if v2 < 0 then some ((-12 : Int32), σ) else (if v2 < (σ q3 2) then (ob (f_X4_put σ q3 v2 v3) (fun σ8 => some ((1 : Int32), σ8))) else some ((-12 : Int32), σ))))))))

def f_X8_copy  (σ : Mem) (v1 : Int32) (v2 : Int32) (v3 : Int32) (v4 : Int32) (v5 : Int32) : Option (Int32 × Mem) := (ob (f_X8_sheetAt σ v1) (fun r2 => (ob (f_X8_sheetAt σ v3) (fun r4 => (onl r2 (some ((-2 : Int32), σ)) (fun q5 => (onl r4 (some ((-2 : Int32), σ)) (fun q6 => (if (σ q5 1) = (-1 : Int32) then some ((-11 : Int32), σ) else (if (σ q6 1) = (-1 : Int32) then some ((-11 : Int32), σ) else (if (σ q5 1) = (σ q6 1) then (if (f_X4_holds σ q5 v2 v5) = 0 then some ((-12 : Int32), σ) else (if (f_X4_holds σ q6 v4 v5) = 0 then some ((-12 : Int32), σ) else (if acok v2 v4 v5 40 40 then some (v5, (mcp σ (q5 + 1) (v2.toNatClampNeg) (q6 + 1) (v4.toNatClampNeg) (v5.toNatClampNeg))) else none))) else some ((-13 : Int32), σ))))))))))))

def f_X8_menBy_b137  (s66 : Mem → Int32 → Int32 → Option (Int32 × Mem)) (σ : Mem) (v3 : Int32) (v4 : Int32) (v5 : Nat) (v6 : Int32) (v7 : Int32) : Option (Int32 × Mem) := (s66 σ v6 (v7 + 1))

def f_X8_menBy_b66   (v3 : Int32) (v4 : Int32) (v5 : Nat) : Nat → Mem → Int32 → Int32 → Option (Int32 × Mem)
  | 0, _, _, _ => none
  | n + 1, σ, v6, v7 => (if v4 ≤ v7 then some (v6, σ) else (if (f_X4_holds σ v5 v3 (((3 : Int32) * v7) + (3 : Int32))) = 0 then some ((-12 : Int32), σ) else (ob (f_X4_number σ v5 (v3 + ((3 : Int32) * v7))) (fun r13 => (ob (f_X4_number σ v5 ((v3 + ((3 : Int32) * v7)) + (1 : Int32))) (fun r15 => (ob (f_X4_number σ v5 ((v3 + ((3 : Int32) * v7)) + (2 : Int32))) (fun r17 => (ob2 (f_X6_addMan σ 15 r13 r15 r17) (fun r19 σ20 => (if r19 < 0 then (f_X8_menBy_b137 (f_X8_menBy_b66 v3 v4 v5 n) σ20 v3 v4 v5 v6 v7) else (f_X8_menBy_b137 (f_X8_menBy_b66 v3 v4 v5 n) σ20 v3 v4 v5 (v6 + 1) v7))))))))))))

def f_X8_menBy  (σ : Mem) (v1 : Int32) (v2 : Int32) (v3 : Int32) (v4 : Int32) : Option (Int32 × Mem) := (ob (f_X8_sheetAt σ v1) (fun r2 => (onl r2 (some ((-2 : Int32), σ)) (fun q3 => (if v2 < 0 then some ((-2 : Int32), σ) else (if (2 : Int32) < v2 then some ((-2 : Int32), σ) else (if v4 < 0 then some ((-2 : Int32), σ) else (if v4 ≤ (6 : Int32) then (if (σ q3 1) = (-1 : Int32) then some ((-11 : Int32), σ) else (if (σ q3 1) = v2 then (f_X8_menBy_b66 v3 v4 q3 FU σ (0 : Int32) (0 : Int32)) else some ((-13 : Int32), σ))) else some ((-2 : Int32), σ)))))))))

def f_X8_taken  (σ : Mem) (v1 : Int32) (v2 : Int32) : Option Int32 := (if v2 < 0 then some (-2 : Int32) else (if v2 ≤ (6 : Int32) then (if v1 < 0 then some (-12 : Int32) else (if v1 < (14 : Int32) then (ob (f_X6_manAt σ 15 v1) (fun r6 => (ob (f_X6_vowAt σ 15 (v1 - (6 : Int32))) (fun r8 => (onl r6 (onl r8 (some (-11 : Int32)) (fun q10 => (if v2 ≤ (5 : Int32) then some (-13 : Int32) else some (σ q10 2)))) (fun q9 => (if (5 : Int32) < v2 then some (-13 : Int32) else (if (f_X1_isOne σ q9 v2) = 0 then some (-13 : Int32) else some v1)))))))) else some (-12 : Int32))) else some (-2 : Int32)))

def f_X9_in  (v0 : Int32) (v1 : Int32) (v2 : Int32) : Int32 := (if v0 < v1 then (0 : Int32) else (if v2 < v0 then (0 : Int32) else (1 : Int32)))

theorem bz_X9_in (v0 : Int32) (v1 : Int32) (v2 : Int32) : f_X9_in v0 v1 v2 = 0 ∨ f_X9_in v0 v1 v2 = 1 := by
  unfold f_X9_in
  (repeat' split) <;> first | exact Or.inl rfl | exact Or.inr rfl

def f_X9_within  (v0 : Int32) (v1 : Int32) (v2 : Int32) : Int32 := (if v1 ≤ v0 then (if v0 ≤ v2 then v0 else v2) else v1)

def f_X9_ones_b4   (v0 : Int32) : Nat → Int32 → Int32 → Option Int32
  | 0, _, _ => none
  | n + 1, v1, v2 => (if (8 : Int32) ≤ v2 then some v1 else (od (v1 + ((v0 >>> (v2 &&& 31)) &&& (1 : Int32))) (fun x2 : Int32 => ((f_X9_ones_b4 v0 n) x2 (v2 + 1)))))

def f_X9_ones  (v0 : Int32) : Option Int32 := (f_X9_ones_b4 v0 FU (0 : Int32) (0 : Int32))

def f_X9_isMan  (σ : Mem) (v1 : Int32) : Int32 := (f_X9_in v1 (0 : Int32) ((σ 0 0) - (1 : Int32)))

def f_X9_isVow  (σ : Mem) (v1 : Int32) : Int32 := (f_X9_in v1 (0 : Int32) ((σ 0 4) - (1 : Int32)))

def f_X9_stands  (σ : Mem) (v1 : Int32) : Option Int32 := (if inb (((6 : Int32) * v1) + (5 : Int32)) 48 then (if (σ 4 ((((6 : Int32) * v1) + (5 : Int32)).toNatClampNeg)) = 0 then some (1 : Int32) else some (0 : Int32)) else none)

def f_X9_count  (σ : Mem) (v1 : Int32) : Int32 := (if v1 = 0 then (σ 0 0) else (if v1 = 1 then (σ 0 4) else (if v1 = 2 then (σ 0 6) else (if v1 = 3 then (σ 0 11) else (if v1 = 4 then (σ 0 12) else (if v1 = 5 then (σ 0 8) else (-2 : Int32)))))))

def f_X9_isByte  (v0 : Int32) : Int32 := (f_X9_in v0 (0 : Int32) (255 : Int32))

def f_X9_feed_b125  (s68 : Mem → Int32 → Option (Int32 × Mem)) (σ : Mem) (v1 : Int32) (v2 : Int32) (v3 : Int32) (v4 : Int32) (v5 : Int32) (v6 : Int32) (v7 : Int32) (k1 : Int32) (k2 : Int32) : Option (Int32 × Mem) := (if inb k1 160 then (od (ms (ms σ 5 (k1.toNatClampNeg) k2) 0 8 (((ms σ 5 (k1.toNatClampNeg) k2) 0 8) + (1 : Int32))) (fun σ14 : Mem => (s68 σ14 (v7 + 1)))) else none)

def f_X9_feed_b68   (v1 : Int32) (v2 : Int32) (v3 : Int32) (v4 : Int32) (v5 : Int32) (v6 : Int32) : Nat → Mem → Int32 → Option (Int32 × Mem)
  | 0, _, _ => none
  | n + 1, σ, v7 => (if v1 ≤ v7 then some ((σ 0 8), σ) else (if v7 = 0 then (f_X9_feed_b125 (f_X9_feed_b68 v1 v2 v3 v4 v5 v6 n) σ v1 v2 v3 v4 v5 v6 v7 (σ 0 8) v2) else (if v7 = (1 : Int32) then (f_X9_feed_b125 (f_X9_feed_b68 v1 v2 v3 v4 v5 v6 n) σ v1 v2 v3 v4 v5 v6 v7 (σ 0 8) v3) else (if v7 = (2 : Int32) then (f_X9_feed_b125 (f_X9_feed_b68 v1 v2 v3 v4 v5 v6 n) σ v1 v2 v3 v4 v5 v6 v7 (σ 0 8) v4) else (if v7 = (3 : Int32) then (f_X9_feed_b125 (f_X9_feed_b68 v1 v2 v3 v4 v5 v6 n) σ v1 v2 v3 v4 v5 v6 v7 (σ 0 8) v5) else (f_X9_feed_b125 (f_X9_feed_b68 v1 v2 v3 v4 v5 v6 n) σ v1 v2 v3 v4 v5 v6 v7 (σ 0 8) v6))))))

def f_X9_feed  (σ : Mem) (v1 : Int32) (v2 : Int32) (v3 : Int32) (v4 : Int32) (v5 : Int32) (v6 : Int32) : Option (Int32 × Mem) := (if (f_X9_in v1 (1 : Int32) (5 : Int32)) = 0 then some ((-2 : Int32), σ) else (if (f_X9_isByte v2) = 0 then some ((-2 : Int32), σ) else (if (f_X9_isByte v3) = 0 then some ((-2 : Int32), σ) else (if (f_X9_isByte v4) = 0 then some ((-2 : Int32), σ) else (if (f_X9_isByte v5) = 0 then some ((-2 : Int32), σ) else (if (f_X9_isByte v6) = 0 then some ((-2 : Int32), σ) else (if ((σ 0 8) + v1) ≤ (160 : Int32) then (f_X9_feed_b68 v1 v2 v3 v4 v5 v6 FU σ (0 : Int32)) else some ((-4 : Int32), σ))))))))

def f_X9_wordFrom_b88  (s2 : Int32 → Option Int32) (σ : Mem) (v1 : Int32) (v2 : Int32) (v3 : Int32) (v4 : Int32) : Option Int32 := (if v4 = 0 then (s2 (v3 + 1)) else some v3)

def f_X9_wordFrom_b80  (s2 : Int32 → Option Int32) (s26 : Int32 → Int32 → Option Int32) (σ : Mem) (v1 : Int32) (v2 : Int32) (v3 : Int32) (v5 : Int32) (k0 : Int32) : Option Int32 := (s26 k0 (v5 + 1))

def f_X9_wordFrom_b72  (s2 : Int32 → Option Int32) (s26 : Int32 → Int32 → Option Int32) (σ : Mem) (v1 : Int32) (v2 : Int32) (v3 : Int32) (v5 : Int32) (k0 : Int32) (k1 : Int32) : Option Int32 := (if k0 = k1 then (f_X9_wordFrom_b80 s2 s26 σ v1 v2 v3 v5 (1 : Int32)) else (f_X9_wordFrom_b80 s2 s26 σ v1 v2 v3 v5 (0 : Int32)))

def f_X9_wordFrom_b26  (s2 : Int32 → Option Int32) (σ : Mem) (v1 : Int32) (v2 : Int32) (v3 : Int32) : Nat → Int32 → Int32 → Option Int32
  | 0, _, _ => none
  | n + 1, v4, v5 => (if (8 : Int32) ≤ v5 then (f_X9_wordFrom_b88 s2 σ v1 v2 v3 v4) else (if v4 = 0 then (f_X9_wordFrom_b88 s2 σ v1 v2 v3 v4) else (if inb (((8 : Int32) * v3) + v5) 96 then (if v2 ≤ (v1 + v5) then (f_X9_wordFrom_b72 s2 (f_X9_wordFrom_b26 s2 σ v1 v2 v3 n) σ v1 v2 v3 v5 (σ 13 ((((8 : Int32) * v3) + v5).toNatClampNeg)) (32 : Int32)) else (if inb (v1 + v5) 160 then (f_X9_wordFrom_b72 s2 (f_X9_wordFrom_b26 s2 σ v1 v2 v3 n) σ v1 v2 v3 v5 (σ 13 ((((8 : Int32) * v3) + v5).toNatClampNeg)) (σ 5 ((v1 + v5).toNatClampNeg))) else none)) else none)))

def f_X9_wordFrom_b21  (s2 : Int32 → Option Int32) (σ : Mem) (v1 : Int32) (v2 : Int32) (v3 : Int32) (k0 : Int32) : Option Int32 := (f_X9_wordFrom_b26 s2 σ v1 v2 v3 FU k0 (0 : Int32))

def f_X9_wordFrom_b2   (σ : Mem) (v1 : Int32) (v2 : Int32) : Nat → Int32 → Option Int32
  | 0, _ => none
  | n + 1, v3 => (if (12 : Int32) ≤ v3 then some (12 : Int32) else (if (8 : Int32) < (v2 - v1) then (f_X9_wordFrom_b21 (f_X9_wordFrom_b2 σ v1 v2 n) σ v1 v2 v3 (0 : Int32)) else (f_X9_wordFrom_b21 (f_X9_wordFrom_b2 σ v1 v2 n) σ v1 v2 v3 (1 : Int32))))

def f_X9_wordFrom  (σ : Mem) (v1 : Int32) (v2 : Int32) : Option Int32 := (f_X9_wordFrom_b2 σ v1 v2 FU (0 : Int32))

def f_X9_next_b379   (σ : Mem) (v1 : Int32) (k0 : Int32) : Option Mem := (if k0 = 0 then (od (ms (ms σ 0 25 (-1 : Int32)) 0 23 (((ms σ 0 25 (-1 : Int32)) 0 23) + (1 : Int32))) (fun σ20 : Mem => some σ20)) else (od (ms (ms σ 0 25 v1) 0 23 (((ms σ 0 25 v1) 0 23) + (1 : Int32))) (fun σ21 : Mem => some σ21)))

def f_X9_next_b374   (σ : Mem) (v1 : Int32) : Option Mem := (f_X9_next_b379 σ v1 (1 : Int32))

def f_X9_next_b309   (σ : Mem) (v2 : Int32) : Option Mem := (if v2 ≤ (4 : Int32) then some (ms σ 0 25 (1 : Int32)) else some (ms σ 0 25 (-1 : Int32)))

def f_X9_next_b290  (s230 : Mem → Int32 → Option Mem) (σ : Mem) (v2 : Int32) (k1 : Int32) : Option Mem := (od (ms (ms σ 0 26 k1) 0 23 (((ms σ 0 26 k1) 0 23) + (1 : Int32))) (fun σ28 : Mem => (s230 σ28 (v2 + 1))))

def f_X9_next_b230   : Nat → Mem → Int32 → Option Mem
  | 0, _, _ => none
  | n + 1, σ, v2 => (if (σ 0 8) ≤ (σ 0 23) then (f_X9_next_b309 σ v2) else (if inb (σ 0 23) 160 then (if (f_X9_in (σ 5 ((σ 0 23).toNatClampNeg)) (48 : Int32) (57 : Int32)) = 0 then (f_X9_next_b309 σ v2) else (if (4 : Int32) ≤ v2 then (f_X9_next_b290 (f_X9_next_b230  n) σ v2 (0 : Int32)) else (if inb (σ 0 23) 160 then (f_X9_next_b290 (f_X9_next_b230  n) σ v2 ((((10 : Int32) * (σ 0 26)) + (σ 5 ((σ 0 23).toNatClampNeg))) - (48 : Int32))) else none))) else none))

def f_X9_next_b195   (σ : Mem) (v2 : Int32) (k1 : Int32) : Option Mem := (if (3 : Int32) ≤ v2 then some (ms (ms σ 0 25 k1) 0 26 (v2 - (3 : Int32))) else some (ms (ms σ 0 25 k1) 0 26 v2))

def f_X9_next_b146   (σ : Mem) : Option Mem := (ob (f_X9_wordFrom σ (σ 0 24) (σ 0 23)) (fun r33 => (if (3 : Int32) ≤ r33 then (if (9 : Int32) ≤ r33 then (if r33 = (12 : Int32) then (f_X9_next_b195 σ r33 (-1 : Int32)) else (f_X9_next_b195 σ r33 (((4 : Int32) + r33) - (9 : Int32)))) else (f_X9_next_b195 σ r33 (2 : Int32))) else (f_X9_next_b195 σ r33 (3 : Int32)))))

def f_X9_next_b103   : Nat → Mem → Option Mem
  | 0, _ => none
  | n + 1, σ => (if (σ 0 8) ≤ (σ 0 23) then (f_X9_next_b146 σ) else (if inb (σ 0 23) 160 then (if (f_X9_in (σ 5 ((σ 0 23).toNatClampNeg)) (97 : Int32) (122 : Int32)) = 0 then (f_X9_next_b146 σ) else ((f_X9_next_b103  n) (ms σ 0 23 ((σ 0 23) + (1 : Int32))))) else none))

def f_X9_next_b52   (σ : Mem) : Option Mem := (od (ms (ms (ms σ 0 24 (σ 0 23)) 0 25 (0 : Int32)) 0 26 (0 : Int32)) (fun σ6 : Mem => (if (σ6 0 23) = (σ6 0 8) then some σ6 else (if inb (σ6 0 23) 160 then (if (f_X9_in (σ6 5 ((σ6 0 23).toNatClampNeg)) (97 : Int32) (122 : Int32)) = 0 then (if (f_X9_in (σ6 5 ((σ6 0 23).toNatClampNeg)) (48 : Int32) (57 : Int32)) = 0 then (if (σ6 5 ((σ6 0 23).toNatClampNeg)) = (40 : Int32) then (f_X9_next_b374 σ6 (σ6 5 ((σ6 0 23).toNatClampNeg))) else (if (σ6 5 ((σ6 0 23).toNatClampNeg)) = (41 : Int32) then (f_X9_next_b374 σ6 (σ6 5 ((σ6 0 23).toNatClampNeg))) else (if (σ6 5 ((σ6 0 23).toNatClampNeg)) = (59 : Int32) then (f_X9_next_b374 σ6 (σ6 5 ((σ6 0 23).toNatClampNeg))) else (if (σ6 5 ((σ6 0 23).toNatClampNeg)) = (43 : Int32) then (f_X9_next_b374 σ6 (σ6 5 ((σ6 0 23).toNatClampNeg))) else (if (σ6 5 ((σ6 0 23).toNatClampNeg)) = (45 : Int32) then (f_X9_next_b374 σ6 (σ6 5 ((σ6 0 23).toNatClampNeg))) else (if (σ6 5 ((σ6 0 23).toNatClampNeg)) = (42 : Int32) then (f_X9_next_b374 σ6 (σ6 5 ((σ6 0 23).toNatClampNeg))) else (if (σ6 5 ((σ6 0 23).toNatClampNeg)) = (60 : Int32) then (f_X9_next_b374 σ6 (σ6 5 ((σ6 0 23).toNatClampNeg))) else (if (σ6 5 ((σ6 0 23).toNatClampNeg)) = (61 : Int32) then (f_X9_next_b374 σ6 (σ6 5 ((σ6 0 23).toNatClampNeg))) else (f_X9_next_b379 σ6 (σ6 5 ((σ6 0 23).toNatClampNeg)) (0 : Int32)))))))))) else (f_X9_next_b230 FU σ6 (0 : Int32))) else (f_X9_next_b103 FU σ6)) else none))))

def f_X9_next_b39  (s0 : Mem → Option Mem) (σ : Mem) : Option Mem := (s0 (ms σ 0 23 ((σ 0 23) + (1 : Int32))))

def f_X9_next_b0   : Nat → Mem → Option Mem
  | 0, _ => none
  | n + 1, σ => (if (σ 0 8) ≤ (σ 0 23) then (f_X9_next_b52 σ) else (if inb (σ 0 23) 160 then (if (σ 5 ((σ 0 23).toNatClampNeg)) = (32 : Int32) then (f_X9_next_b39 (f_X9_next_b0  n) σ) else (if inb (σ 0 23) 160 then (if (σ 5 ((σ 0 23).toNatClampNeg)) = (10 : Int32) then (f_X9_next_b39 (f_X9_next_b0  n) σ) else (f_X9_next_b52 σ)) else none)) else none))

def f_X9_next  (σ : Mem) : Option Mem := (f_X9_next_b0 FU σ)

def f_X9_rank  (v0 : Int32) : Int32 := (if v0 = 0 then (0 : Int32) else (if v0 = (11 : Int32) then (1 : Int32) else (if v0 = (12 : Int32) then (2 : Int32) else (if v0 = (13 : Int32) then (3 : Int32) else (if (15 : Int32) < v0 then (if (17 : Int32) < v0 then (if v0 = (18 : Int32) then (6 : Int32) else (7 : Int32)) else (5 : Int32)) else (4 : Int32))))))

def f_X9_puts  (σ : Mem) (v1 : Int32) : Option Mem := (if inb (((200 : Int32) * (σ 0 11)) + (σ 0 31)) 1200 then (od (ms σ 6 ((((200 : Int32) * (σ 0 11)) + (σ 0 31)).toNatClampNeg) v1) (fun σ2 : Mem => some (ms σ2 0 31 ((σ2 0 31) + (1 : Int32))))) else none)

def f_X9_unwinds_b67  (s0 : Mem → Option Mem) (σ : Mem) (v1 : Int32) (v2 : Int32) (k1 : Int32) (k2 : Int32) : Option Mem := (ob (f_X9_puts (ms σ 0 30 (k1 - k2)) v2) (fun σ9 => (s0 σ9)))

def f_X9_unwinds_b62  (s0 : Mem → Option Mem) (σ : Mem) (v1 : Int32) (v2 : Int32) (k1 : Int32) : Option Mem := (f_X9_unwinds_b67 s0 σ v1 v2 k1 (1 : Int32))

def f_X9_unwinds_b0   (v1 : Int32) : Nat → Mem → Option Mem
  | 0, _ => none
  | n + 1, σ => (if (σ 0 29) ≤ 0 then some σ else (if inb ((σ 0 29) - (1 : Int32)) 200 then (if (f_X9_rank (σ 14 (((σ 0 29) - (1 : Int32)).toNatClampNeg))) < v1 then some σ else (if inb ((ms σ 0 29 ((σ 0 29) - (1 : Int32))) 0 29) 200 then (od ((ms σ 0 29 ((σ 0 29) - (1 : Int32))) 14 (((ms σ 0 29 ((σ 0 29) - (1 : Int32))) 0 29).toNatClampNeg)) (fun x5 : Int32 => (if x5 = (13 : Int32) then (f_X9_unwinds_b62 (f_X9_unwinds_b0 v1 n) (ms σ 0 29 ((σ 0 29) - (1 : Int32))) v1 x5 ((ms σ 0 29 ((σ 0 29) - (1 : Int32))) 0 30)) else (if x5 = (19 : Int32) then (f_X9_unwinds_b62 (f_X9_unwinds_b0 v1 n) (ms σ 0 29 ((σ 0 29) - (1 : Int32))) v1 x5 ((ms σ 0 29 ((σ 0 29) - (1 : Int32))) 0 30)) else (f_X9_unwinds_b67 (f_X9_unwinds_b0 v1 n) (ms σ 0 29 ((σ 0 29) - (1 : Int32))) v1 x5 ((ms σ 0 29 ((σ 0 29) - (1 : Int32))) 0 30) (0 : Int32)))))) else none)) else none))

def f_X9_unwinds  (σ : Mem) (v1 : Int32) : Option Mem := (f_X9_unwinds_b0 v1 FU σ)

def f_X9_holds  (σ : Mem) (v1 : Int32) : Option Mem := (if inb (σ 0 29) 200 then (od (ms (ms σ 14 ((σ 0 29).toNatClampNeg) v1) 0 29 (((ms σ 14 ((σ 0 29).toNatClampNeg) v1) 0 29) + (1 : Int32))) (fun σ2 : Mem => some σ2)) else none)

def f_X9_opensOne  (σ : Mem) (v1 : Int32) : Option (Int32 × Mem) := (if (σ 0 30) = (5 : Int32) then some ((0 : Int32), σ) else (ob (f_X9_holds (ms σ 0 30 ((σ 0 30) + (1 : Int32))) v1) (fun σ3 => some ((1 : Int32), σ3))))

def f_X9_between_b17   (σ : Mem) (v1 : Int32) (k1 : Int32) : Option (Int32 × Mem) := (ob (f_X9_unwinds σ k1) (fun σ3 => (if (f_X9_rank v1) = (4 : Int32) then (if (σ3 0 29) ≤ 0 then (ob (f_X9_holds σ3 v1) (fun σ9 => some ((1 : Int32), σ9))) else (if inb ((σ3 0 29) - (1 : Int32)) 200 then (if (f_X9_rank (σ3 14 (((σ3 0 29) - (1 : Int32)).toNatClampNeg))) = (4 : Int32) then some ((0 : Int32), σ3) else (ob (f_X9_holds σ3 v1) (fun σ13 => some ((1 : Int32), σ13)))) else none)) else (ob (f_X9_holds σ3 v1) (fun σ6 => some ((1 : Int32), σ6))))))

def f_X9_between  (σ : Mem) (v1 : Int32) : Option (Int32 × Mem) := (if (f_X9_rank v1) = (4 : Int32) then (f_X9_between_b17 σ v1 (5 : Int32)) else (f_X9_between_b17 σ v1 (f_X9_rank v1)))

def f_X9_signOf  (σ : Mem) : Int32 := (if (σ 0 25) = (4 : Int32) then (11 : Int32) else (if (σ 0 25) = (5 : Int32) then (12 : Int32) else (if (σ 0 25) = (60 : Int32) then (14 : Int32) else (if (σ 0 25) = (61 : Int32) then (15 : Int32) else (if (σ 0 25) = (43 : Int32) then (16 : Int32) else (if (σ 0 25) = (45 : Int32) then (17 : Int32) else (if (σ 0 25) = (42 : Int32) then (18 : Int32) else (-1 : Int32))))))))

def f_X9_eRead_b262  (s14 : Mem → Int32 → Int32 → Option (Int32 × Mem)) (σ : Mem) (v1 : Int32) (k0 : Int32) : Option (Int32 × Mem) := (s14 σ v1 k0)

def f_X9_eRead_b61  (s14 : Mem → Int32 → Int32 → Option (Int32 × Mem)) (σ : Mem) (v2 : Int32) (k1 : Int32) : Option (Int32 × Mem) := (ob (f_X9_puts σ k1) (fun σ31 => (ob (f_X9_unwinds σ31 (7 : Int32)) (fun σ33 => (s14 σ33 (0 : Int32) v2)))))

def f_X9_eRead_b38  (s14 : Mem → Int32 → Int32 → Option (Int32 × Mem)) (σ : Mem) (v2 : Int32) : Option (Int32 × Mem) := (if (σ 0 25) = (1 : Int32) then (f_X9_eRead_b61 s14 σ v2 ((100000 : Int32) + (σ 0 26))) else (f_X9_eRead_b61 s14 σ v2 (σ 0 26)))

def f_X9_eRead_b99  (s14 : Mem → Int32 → Int32 → Option (Int32 × Mem)) (σ : Mem) (v1 : Int32) : Option (Int32 × Mem) := (if (σ 0 25) = (45 : Int32) then (ob2 (f_X9_opensOne σ (19 : Int32)) (fun r41 σ42 => (if r41 = 0 then some ((0 : Int32), σ42) else (s14 σ42 v1 (0 : Int32))))) else (if (σ 0 25) = (40 : Int32) then (ob2 (f_X9_opensOne σ (0 : Int32)) (fun r37 σ38 => (if r37 = 0 then some ((0 : Int32), σ38) else (s14 σ38 v1 (1 : Int32))))) else some ((0 : Int32), σ)))

def f_X9_eRead_b14   : Nat → Mem → Int32 → Int32 → Option (Int32 × Mem)
  | 0, _, _, _ => none
  | n + 1, σ, v1, v2 => (ob (f_X9_next σ) (fun σ2 => (if v1 = 0 then (if (σ2 0 25) = (59 : Int32) then (ob (f_X9_unwinds σ2 (1 : Int32)) (fun σ19 => (if (σ19 0 29) = 0 then some ((1 : Int32), σ19) else some ((0 : Int32), σ19)))) else (if (σ2 0 25) = (41 : Int32) then (ob (f_X9_unwinds σ2 (1 : Int32)) (fun σ13 => (if (σ13 0 29) = 0 then some ((0 : Int32), σ13) else (od (ms (ms σ13 0 29 ((σ13 0 29) - (1 : Int32))) 0 30 (((ms σ13 0 29 ((σ13 0 29) - (1 : Int32))) 0 30) - (1 : Int32))) (fun σ15 : Mem => (ob (f_X9_unwinds σ15 (7 : Int32)) (fun σ17 => ((f_X9_eRead_b14  n) σ17 v1 v2)))))))) else (if (f_X9_signOf σ2) = (-1 : Int32) then some ((0 : Int32), σ2) else (ob2 (f_X9_between σ2 (f_X9_signOf σ2)) (fun r8 σ9 => (if r8 = 0 then some ((0 : Int32), σ9) else (if (12 : Int32) < (f_X9_signOf σ2) then (f_X9_eRead_b262 (f_X9_eRead_b14  n) σ9 (1 : Int32) (0 : Int32)) else (f_X9_eRead_b262 (f_X9_eRead_b14  n) σ9 (1 : Int32) (1 : Int32))))))))) else (if (σ2 0 25) = (1 : Int32) then (f_X9_eRead_b38 (f_X9_eRead_b14  n) σ2 v2) else (if (σ2 0 25) = (2 : Int32) then (f_X9_eRead_b38 (f_X9_eRead_b14  n) σ2 v2) else (if (σ2 0 25) = (6 : Int32) then (if v2 = 0 then (f_X9_eRead_b99 (f_X9_eRead_b14  n) σ2 v1) else (ob2 (f_X9_opensOne σ2 (13 : Int32)) (fun r26 σ27 => (if r26 = 0 then some ((0 : Int32), σ27) else ((f_X9_eRead_b14  n) σ27 v1 v2))))) else (f_X9_eRead_b99 (f_X9_eRead_b14  n) σ2 v1)))))))

def f_X9_eRead  (σ : Mem) : Option (Int32 × Mem) := (f_X9_eRead_b14 FU (ms (ms σ 0 29 (0 : Int32)) 0 30 (0 : Int32)) (1 : Int32) (1 : Int32))

def f_X9_text_b122   (σ : Mem) (v1 : Int32) : Option (Int32 × Mem) := (if inb (((4 : Int32) * (σ 0 11)) + (3 : Int32)) 24 then (od (ms σ 7 ((((4 : Int32) * (σ 0 11)) + (3 : Int32)).toNatClampNeg) (σ 0 31)) (fun σ13 : Mem => (if v1 = 0 then some (((-100 : Int32) - ((ms σ13 0 8 (0 : Int32)) 0 24)), (ms σ13 0 8 (0 : Int32))) else (od (ms (ms σ13 0 8 (0 : Int32)) 0 11 (((ms σ13 0 8 (0 : Int32)) 0 11) + (1 : Int32))) (fun σ15 : Mem => some (((σ15 0 11) - (1 : Int32)), σ15)))))) else none)

def f_X9_text_b121   (σ : Mem) (k0 : Int32) : Option (Int32 × Mem) := (f_X9_text_b122 σ k0)

def f_X9_text_b101   (σ : Mem) (v1 : Int32) : Option (Int32 × Mem) := (if v1 = 0 then (f_X9_text_b122 σ v1) else (ob (f_X9_next σ) (fun σ10 => (if (σ10 0 25) = 0 then (f_X9_text_b121 σ10 (1 : Int32)) else (f_X9_text_b121 σ10 (0 : Int32))))))

def f_X9_text_b94  (s26 : Mem → Int32 → Int32 → Option (Int32 × Mem)) (σ : Mem) (v2 : Int32) (k0 : Int32) : Option (Int32 × Mem) := (s26 σ k0 (v2 + 1))

def f_X9_text_b93  (s26 : Mem → Int32 → Int32 → Option (Int32 × Mem)) (σ : Mem) (v2 : Int32) : Option (Int32 × Mem) := (f_X9_text_b94 s26 σ v2 (0 : Int32))

def f_X9_text_b60  (s26 : Mem → Int32 → Int32 → Option (Int32 × Mem)) (σ : Mem) (v2 : Int32) (k0 : Int32) : Option (Int32 × Mem) := (if inb (((4 : Int32) * (σ 0 11)) + v2) 24 then (od (ms σ 7 ((((4 : Int32) * (σ 0 11)) + v2).toNatClampNeg) (σ 0 31)) (fun σ17 : Mem => (if k0 = 0 then (f_X9_text_b93 s26 σ17 v2) else (ob2 (f_X9_eRead σ17) (fun r20 σ21 => (if r20 = 0 then (f_X9_text_b93 s26 σ21 v2) else (f_X9_text_b94 s26 σ21 v2 (1 : Int32)))))))) else none)

def f_X9_text_b59  (s26 : Mem → Int32 → Int32 → Option (Int32 × Mem)) (σ : Mem) (v2 : Int32) : Option (Int32 × Mem) := (f_X9_text_b60 s26 σ v2 (0 : Int32))

def f_X9_text_b26   : Nat → Mem → Int32 → Int32 → Option (Int32 × Mem)
  | 0, _, _, _ => none
  | n + 1, σ, v1, v2 => (if (3 : Int32) ≤ v2 then (f_X9_text_b101 σ v1) else (if v1 = 0 then (f_X9_text_b101 σ v1) else (ob (f_X9_next σ) (fun σ5 => (if (σ5 0 25) = (3 : Int32) then (if (σ5 0 26) = v2 then (f_X9_text_b60 (f_X9_text_b26  n) σ5 v2 (1 : Int32)) else (f_X9_text_b59 (f_X9_text_b26  n) σ5 v2)) else (f_X9_text_b59 (f_X9_text_b26  n) σ5 v2))))))

def f_X9_text  (σ : Mem) : Option (Int32 × Mem) := (if (σ 0 11) = (6 : Int32) then some ((-4 : Int32), σ) else (f_X9_text_b26 FU (ms (ms σ 0 23 (0 : Int32)) 0 31 (0 : Int32)) (1 : Int32) (0 : Int32)))

def f_X9_two  (v0 : Int32) (v1 : Int32) (v2 : Int32) : Int32 := (if v0 = 11 then (if v1 = 0 then (if v2 = 0 then (0 : Int32) else (1 : Int32)) else (1 : Int32)) else (if v0 = 12 then (if v1 = 0 then (0 : Int32) else (if v2 = 0 then (0 : Int32) else (1 : Int32))) else (if v0 = 14 then (if v2 ≤ v1 then (0 : Int32) else (1 : Int32)) else (if v0 = 15 then (if v1 = v2 then (1 : Int32) else (0 : Int32)) else (if v0 = 16 then (v1 + v2) else (if v0 = 17 then (v1 - v2) else (v1 * v2)))))))

def f_X9_says_b191  (s16 : Mem → Int32 → Int32 → Option (Int32 × Mem)) (σ : Mem) (v1 : Int32) (v2 : Int32) (v3 : Int32) : Option (Int32 × Mem) := (s16 σ v2 (v3 + 1))

def f_X9_says_b93  (s16 : Mem → Int32 → Int32 → Option (Int32 × Mem)) (σ : Mem) (v1 : Int32) (v2 : Int32) (v3 : Int32) (k1 : Int32) (k2 : Int32) : Option (Int32 × Mem) := (if inb k1 200 then (f_X9_says_b191 s16 (ms σ 15 (k1.toNatClampNeg) k2) v1 (v2 + 1) v3) else none)

def f_X9_says_b66  (s16 : Mem → Int32 → Int32 → Option (Int32 × Mem)) (σ : Mem) (v1 : Int32) (v2 : Int32) (v3 : Int32) (v4 : Int32) : Option (Int32 × Mem) := (if (11 : Int32) ≤ v4 then (f_X9_says_b93 s16 σ v1 v2 v3 v2 (v4 - (100000 : Int32))) else (if inb v4 6 then (f_X9_says_b93 s16 σ v1 v2 v3 v2 (σ 16 (v4.toNatClampNeg))) else none))

def f_X9_says_b130  (s16 : Mem → Int32 → Int32 → Option (Int32 × Mem)) (σ : Mem) (v1 : Int32) (v2 : Int32) (v3 : Int32) (k1 : Int32) (k2 : Int32) : Option (Int32 × Mem) := (if inb k1 200 then (f_X9_says_b191 s16 (ms σ 15 (k1.toNatClampNeg) k2) v1 v2 v3) else none)

def f_X9_says_b16   (v1 : Int32) : Nat → Mem → Int32 → Int32 → Option (Int32 × Mem)
  | 0, _, _, _ => none
  | n + 1, σ, v2, v3 => (if inb ((((4 : Int32) * (σ 0 12)) + v1) + (1 : Int32)) 24 then (if (σ 7 (((((4 : Int32) * (σ 0 12)) + v1) + (1 : Int32)).toNatClampNeg)) ≤ v3 then some ((σ 15 0), σ) else (if inb (((200 : Int32) * (σ 0 12)) + v3) 1200 then (od (σ 6 ((((200 : Int32) * (σ 0 12)) + v3).toNatClampNeg)) (fun x6 : Int32 => (if (100000 : Int32) ≤ x6 then (f_X9_says_b66 (f_X9_says_b16 v1 n) σ v1 v2 v3 x6) else (if (11 : Int32) ≤ x6 then (if x6 = (13 : Int32) then (if inb (v2 - (1 : Int32)) 200 then (if (σ 15 ((v2 - (1 : Int32)).toNatClampNeg)) = 0 then (f_X9_says_b130 (f_X9_says_b16 v1 n) σ v1 v2 v3 (v2 - (1 : Int32)) (1 : Int32)) else (f_X9_says_b130 (f_X9_says_b16 v1 n) σ v1 v2 v3 (v2 - (1 : Int32)) (0 : Int32))) else none) else (if x6 = (19 : Int32) then (if inb (v2 - (1 : Int32)) 200 then (if inb (v2 - (1 : Int32)) 200 then (od (ms σ 15 ((v2 - (1 : Int32)).toNatClampNeg) (-(σ 15 ((v2 - (1 : Int32)).toNatClampNeg)))) (fun σ17 : Mem => (f_X9_says_b191 (f_X9_says_b16 v1 n) σ17 v1 v2 v3))) else none) else none) else (if inb ((v2 + (-1)) - (1 : Int32)) 200 then (if inb (v2 + (-1)) 200 then (if inb ((v2 + (-1)) - (1 : Int32)) 200 then (od (ms σ 15 (((v2 + (-1)) - (1 : Int32)).toNatClampNeg) (f_X9_two x6 (σ 15 (((v2 + (-1)) - (1 : Int32)).toNatClampNeg)) (σ 15 ((v2 + (-1)).toNatClampNeg)))) (fun σ14 : Mem => (f_X9_says_b191 (f_X9_says_b16 v1 n) σ14 v1 (v2 + (-1)) v3))) else none) else none) else none))) else (f_X9_says_b66 (f_X9_says_b16 v1 n) σ v1 v2 v3 x6))))) else none)) else none)

def f_X9_says  (σ : Mem) (v1 : Int32) : Option (Int32 × Mem) := (if inb (((4 : Int32) * (σ 0 12)) + v1) 24 then (od (σ 7 ((((4 : Int32) * (σ 0 12)) + v1).toNatClampNeg)) (fun x2 : Int32 => (f_X9_says_b16 v1 FU σ (0 : Int32) x2))) else none)

def f_X9_force  (σ : Mem) (v1 : Int32) : (Int32 × Mem) := (if (f_X9_in v1 (0 : Int32) ((σ 0 11) - (1 : Int32))) = 0 then ((-2 : Int32), σ) else ((σ 0 12), (ms σ 0 12 v1)))

def f_X9_owedBy_b49  (s4 : Int32 → Int32 → Option Int32) (σ : Mem) (v1 : Int32) (v3 : Int32) (k0 : Int32) (k1 : Int32) : Option Int32 := (s4 (k0 + k1) (v3 + 1))

def f_X9_owedBy_b48  (s4 : Int32 → Int32 → Option Int32) (σ : Mem) (v1 : Int32) (v3 : Int32) (k0 : Int32) : Option Int32 := (f_X9_owedBy_b49 s4 σ v1 v3 k0 (0 : Int32))

def f_X9_owedBy_b4   (σ : Mem) (v1 : Int32) : Nat → Int32 → Int32 → Option Int32
  | 0, _, _ => none
  | n + 1, v2, v3 => (if (σ 0 4) ≤ v3 then some v2 else (if inb ((6 : Int32) * v3) 48 then (if (σ 4 (((6 : Int32) * v3).toNatClampNeg)) = v1 then (ob (f_X9_stands σ v3) (fun r5 => (if r5 = 0 then (f_X9_owedBy_b48 (f_X9_owedBy_b4 σ v1 n) σ v1 v3 v2) else (if inb (((6 : Int32) * v3) + (2 : Int32)) 48 then (f_X9_owedBy_b49 (f_X9_owedBy_b4 σ v1 n) σ v1 v3 v2 (σ 4 ((((6 : Int32) * v3) + (2 : Int32)).toNatClampNeg))) else none)))) else (f_X9_owedBy_b48 (f_X9_owedBy_b4 σ v1 n) σ v1 v3 v2)) else none))

def f_X9_owedBy  (σ : Mem) (v1 : Int32) : Option Int32 := (f_X9_owedBy_b4 σ v1 FU (0 : Int32) (0 : Int32))

def f_X9_asksOf  (σ : Mem) (v1 : Int32) (v2 : Int32) (v3 : Int32) : Option (Int32 × Mem) := (if inb ((4 : Int32) * v2) 24 then (od (ms σ 16 0 (σ 3 (((4 : Int32) * v2).toNatClampNeg))) (fun σ2 : Mem => (if inb (((4 : Int32) * v2) + (1 : Int32)) 24 then (od (ms σ2 16 1 (σ2 3 ((((4 : Int32) * v2) + (1 : Int32)).toNatClampNeg))) (fun σ4 : Mem => (if inb v2 6 then (od (ms (ms σ4 16 2 (σ4 2 (v2.toNatClampNeg))) 16 3 v3) (fun σ6 : Mem => (ob (f_X9_owedBy σ6 v2) (fun r8 => (if inb (((4 : Int32) * v2) + (2 : Int32)) 24 then (od (ms (ms σ6 16 4 r8) 16 5 ((ms σ6 16 4 r8) 3 ((((4 : Int32) * v2) + (2 : Int32)).toNatClampNeg))) (fun σ10 : Mem => (ob2 (f_X9_says σ10 v1) (fun r12 σ13 => some ((f_X9_within r12 (0 : Int32) (99 : Int32)), σ13))))) else none))))) else none))) else none))) else none)

def f_X9_asks  (σ : Mem) (v1 : Int32) (v2 : Int32) (v3 : Int32) : Option (Int32 × Mem) := (if (f_X9_in v1 (0 : Int32) (2 : Int32)) = 0 then some ((-2 : Int32), σ) else (if (f_X9_isMan σ v2) = 0 then some ((-2 : Int32), σ) else (if (f_X9_in v3 (0 : Int32) (999 : Int32)) = 0 then some ((-2 : Int32), σ) else (ob2 (f_X9_asksOf σ v1 v2 v3) (fun r5 σ6 => some (r5, σ6))))))

def f_X9_man  (σ : Mem) (v1 : Int32) (v2 : Int32) (v3 : Int32) : Option (Int32 × Mem) := (if (f_X9_in v1 (0 : Int32) (5 : Int32)) = 0 then some ((-2 : Int32), σ) else (if (f_X9_in v2 (0 : Int32) (9 : Int32)) = 0 then some ((-2 : Int32), σ) else (if (f_X9_in v3 (0 : Int32) (999 : Int32)) = 0 then some ((-2 : Int32), σ) else (if (σ 0 0) = (6 : Int32) then some ((-4 : Int32), σ) else (if inb (σ 0 0) 6 then (if inb ((ms σ 1 ((σ 0 0).toNatClampNeg) v1) 0 0) 6 then (od (ms (ms σ 1 ((σ 0 0).toNatClampNeg) v1) 2 (((ms σ 1 ((σ 0 0).toNatClampNeg) v1) 0 0).toNatClampNeg) v2) (fun σ7 : Mem => (if inb ((4 : Int32) * (σ7 0 0)) 24 then (od (ms σ7 3 (((4 : Int32) * (σ7 0 0)).toNatClampNeg) v3) (fun σ9 : Mem => (if inb (((4 : Int32) * (σ9 0 0)) + (1 : Int32)) 24 then (od (ms σ9 3 ((((4 : Int32) * (σ9 0 0)) + (1 : Int32)).toNatClampNeg) (0 : Int32)) (fun σ11 : Mem => (if inb (((4 : Int32) * (σ11 0 0)) + (2 : Int32)) 24 then (od (ms σ11 3 ((((4 : Int32) * (σ11 0 0)) + (2 : Int32)).toNatClampNeg) (0 : Int32)) (fun σ13 : Mem => (if inb (((4 : Int32) * (σ13 0 0)) + (3 : Int32)) 24 then (od (ms σ13 3 ((((4 : Int32) * (σ13 0 0)) + (3 : Int32)).toNatClampNeg) (0 : Int32)) (fun σ15 : Mem => some ((((ms σ15 0 0 ((σ15 0 0) + (1 : Int32))) 0 0) - (1 : Int32)), (ms σ15 0 0 ((σ15 0 0) + (1 : Int32)))))) else none))) else none))) else none))) else none))) else none) else none)))))

def f_X9_set_b34   (σ : Mem) (v1 : Int32) (v2 : Int32) (v3 : Int32) (k0 : Int32) (k1 : Int32) (k2 : Int32) : Option (Int32 × Mem) := (if (f_X9_in k0 k1 k2) = 0 then some ((-7 : Int32), σ) else (if inb (((4 : Int32) * v1) + v2) 24 then (od (σ 3 ((((4 : Int32) * v1) + v2).toNatClampNeg)) (fun x6 : Int32 => (if inb (((4 : Int32) * v1) + v2) 24 then (od (ms σ 3 ((((4 : Int32) * v1) + v2).toNatClampNeg) v3) (fun σ8 : Mem => some (x6, σ8))) else none))) else none))

def f_X9_set  (σ : Mem) (v1 : Int32) (v2 : Int32) (v3 : Int32) : Option (Int32 × Mem) := (if (f_X9_isMan σ v1) = 0 then some ((-5 : Int32), σ) else (if (f_X9_in v2 (0 : Int32) (2 : Int32)) = 0 then some ((-7 : Int32), σ) else (if v2 = 0 then (f_X9_set_b34 σ v1 v2 v3 v3 (0 : Int32) (999 : Int32)) else (f_X9_set_b34 σ v1 v2 v3 v3 (0 : Int32) (9 : Int32)))))

def f_X9_growsOf_b31   (σ : Mem) (v1 : Int32) (v2 : Int32) (v3 : Int32) (v4 : Int32) (k0 : Int32) : Option (Int32 × Mem) := (if inb v1 6 then (if (σ 1 (v1.toNatClampNeg)) = 1 then some ((v3 / (2 : Int32)), σ) else (if (σ 1 (v1.toNatClampNeg)) = 2 then some (k0, σ) else (if (σ 1 (v1.toNatClampNeg)) = 3 then some (((v3 / (2 : Int32)) + (v4 / (3 : Int32))), σ) else (if (σ 1 (v1.toNatClampNeg)) = 4 then (if (irm v2 (4 : Int32)) = (3 : Int32) then some ((0 : Int32), σ) else some ((k0 + (2 : Int32)), σ)) else (if (σ 1 (v1.toNatClampNeg)) = 5 then (if (irm v2 (52 : Int32)) < (10 : Int32) then some ((v3 / (3 : Int32)), σ) else (if (irm v2 (52 : Int32)) ≤ (42 : Int32) then some ((v3 + (v4 / (2 : Int32))), σ) else some ((v3 / (3 : Int32)), σ))) else some (v3, σ)))))) else none)

def f_X9_growsOf  (σ : Mem) (v1 : Int32) (v2 : Int32) : Option (Int32 × Mem) := (ob2 (f_X9_asksOf σ (0 : Int32) v1 v2) (fun r2 σ3 => (if inb v1 6 then (if ((2 : Int32) * (σ3 2 (v1.toNatClampNeg))) ≤ v2 then (f_X9_growsOf_b31 σ3 v1 v2 r2 (σ3 2 (v1.toNatClampNeg)) (r2 + (1 : Int32))) else (f_X9_growsOf_b31 σ3 v1 v2 r2 (σ3 2 (v1.toNatClampNeg)) (0 : Int32))) else none)))

def f_X9_countsOf  (σ : Mem) (v1 : Int32) (v2 : Int32) : Option Int32 := (if inb v1 6 then (if (σ 1 (v1.toNatClampNeg)) = (1 : Int32) then some ((2 : Int32) * v2) else (if (σ 1 (v1.toNatClampNeg)) = (3 : Int32) then some ((2 : Int32) * v2) else (if (σ 1 (v1.toNatClampNeg)) = (4 : Int32) then (if inb v1 6 then some ((v2 * ((9 : Int32) - (σ 2 (v1.toNatClampNeg)))) / (10 : Int32)) else none) else some v2))) else none)

def f_X9_graceOf  (σ : Mem) (v1 : Int32) : Option Int32 := (if inb v1 6 then (if (σ 1 (v1.toNatClampNeg)) = (2 : Int32) then some (1 : Int32) else (if inb v1 6 then (if (σ 1 (v1.toNatClampNeg)) = (4 : Int32) then some (1 : Int32) else (if inb v1 6 then (if (σ 1 (v1.toNatClampNeg)) = (3 : Int32) then some (4 : Int32) else some (0 : Int32)) else none)) else none)) else none)

def f_X9_told  (σ : Mem) (v1 : Int32) (v2 : Int32) : Option Int32 := (if (f_X9_isMan σ v1) = 0 then some (-5 : Int32) else (if v2 = 0 then (if inb v1 6 then some (σ 1 (v1.toNatClampNeg)) else none) else (if v2 = 1 then (if inb v1 6 then some (σ 2 (v1.toNatClampNeg)) else none) else (if v2 = 2 then (if inb ((((4 : Int32) * v1) + v2) - (2 : Int32)) 24 then some (σ 3 (((((4 : Int32) * v1) + v2) - (2 : Int32)).toNatClampNeg)) else none) else (if v2 = 3 then (if inb ((((4 : Int32) * v1) + v2) - (2 : Int32)) 24 then some (σ 3 (((((4 : Int32) * v1) + v2) - (2 : Int32)).toNatClampNeg)) else none) else (if v2 = 4 then (if inb ((((4 : Int32) * v1) + v2) - (2 : Int32)) 24 then some (σ 3 (((((4 : Int32) * v1) + v2) - (2 : Int32)).toNatClampNeg)) else none) else (if v2 = 5 then (if inb ((((4 : Int32) * v1) + v2) - (2 : Int32)) 24 then some (σ 3 (((((4 : Int32) * v1) + v2) - (2 : Int32)).toNatClampNeg)) else none) else (if v2 = 6 then (if inb ((4 : Int32) * v1) 24 then (ob (f_X9_countsOf σ v1 (σ 3 (((4 : Int32) * v1).toNatClampNeg))) (fun r17 => some r17)) else none) else (if v2 = 7 then (ob (f_X9_graceOf σ v1) (fun r20 => some r20)) else (if v2 = 8 then (ob (f_X9_owedBy σ v1) (fun r23 => some r23)) else some (-7 : Int32)))))))))))

def f_X9_vow_b70   (σ : Mem) (v1 : Int32) (v2 : Int32) (v3 : Int32) (k0 : Int32) : Option (Int32 × Mem) := (if k0 = 0 then some ((-2 : Int32), σ) else (if inb (((4 : Int32) * (v1 / (10 : Int32))) + (3 : Int32)) 24 then (if (σ 3 ((((4 : Int32) * (v1 / (10 : Int32))) + (3 : Int32)).toNatClampNeg)) = (1 : Int32) then some ((-3 : Int32), σ) else (if (σ 0 6) ≤ v3 then (if (σ 0 4) = (8 : Int32) then some ((-4 : Int32), σ) else (if inb ((6 : Int32) * (σ 0 4)) 48 then (od (ms σ 4 (((6 : Int32) * (σ 0 4)).toNatClampNeg) (v1 / (10 : Int32))) (fun σ13 : Mem => (if inb (((6 : Int32) * (σ 0 4)) + (1 : Int32)) 48 then (od (ms σ13 4 ((((6 : Int32) * (σ 0 4)) + (1 : Int32)).toNatClampNeg) (irm v1 (10 : Int32))) (fun σ15 : Mem => (if inb (((6 : Int32) * (σ 0 4)) + (2 : Int32)) 48 then (od (ms σ15 4 ((((6 : Int32) * (σ 0 4)) + (2 : Int32)).toNatClampNeg) v2) (fun σ17 : Mem => (if inb (((6 : Int32) * (σ 0 4)) + (3 : Int32)) 48 then (od (ms σ17 4 ((((6 : Int32) * (σ 0 4)) + (3 : Int32)).toNatClampNeg) v3) (fun σ19 : Mem => (if inb (((6 : Int32) * (σ 0 4)) + (4 : Int32)) 48 then (od (ms σ19 4 ((((6 : Int32) * (σ 0 4)) + (4 : Int32)).toNatClampNeg) (-1 : Int32)) (fun σ21 : Mem => (if inb (((6 : Int32) * (σ 0 4)) + (5 : Int32)) 48 then (od (ms σ21 4 ((((6 : Int32) * (σ 0 4)) + (5 : Int32)).toNatClampNeg) (0 : Int32)) (fun σ23 : Mem => some ((((ms σ23 0 4 ((σ23 0 4) + (1 : Int32))) 0 4) - (1 : Int32)), (ms σ23 0 4 ((σ23 0 4) + (1 : Int32)))))) else none))) else none))) else none))) else none))) else none))) else none)) else some ((-3 : Int32), σ))) else none))

def f_X9_vow_b69   (σ : Mem) (v1 : Int32) (v2 : Int32) (v3 : Int32) : Option (Int32 × Mem) := (f_X9_vow_b70 σ v1 v2 v3 (0 : Int32))

def f_X9_vow  (σ : Mem) (v1 : Int32) (v2 : Int32) (v3 : Int32) : Option (Int32 × Mem) := (if (f_X9_in v1 (0 : Int32) (59 : Int32)) = 0 then (f_X9_vow_b69 σ v1 v2 v3) else (if (f_X9_isMan σ (v1 / (10 : Int32))) = 0 then (f_X9_vow_b69 σ v1 v2 v3) else (if (f_X9_isMan σ (irm v1 (10 : Int32))) = 0 then (f_X9_vow_b69 σ v1 v2 v3) else (if (v1 / (10 : Int32)) = (irm v1 (10 : Int32)) then (f_X9_vow_b69 σ v1 v2 v3) else (if (f_X9_in v2 (1 : Int32) (200 : Int32)) = 0 then (f_X9_vow_b69 σ v1 v2 v3) else (if (f_X9_in v3 (0 : Int32) (999 : Int32)) = 0 then (f_X9_vow_b69 σ v1 v2 v3) else (f_X9_vow_b70 σ v1 v2 v3 (1 : Int32))))))))

def f_X9_maturesOf_b50   (σ : Mem) (v3 : Int32) (k0 : Int32) : Option Int32 := (if k0 ≤ v3 then some v3 else some k0)

def f_X9_maturesOf  (σ : Mem) (v1 : Int32) : Option Int32 := (if inb (((6 : Int32) * v1) + (4 : Int32)) 48 then (od (σ 4 ((((6 : Int32) * v1) + (4 : Int32)).toNatClampNeg)) (fun x2 : Int32 => (if inb (((6 : Int32) * v1) + (3 : Int32)) 48 then (od (σ 4 ((((6 : Int32) * v1) + (3 : Int32)).toNatClampNeg)) (fun x4 : Int32 => (if x2 = (-1 : Int32) then (f_X9_maturesOf_b50 σ x4 x4) else (if inb (((6 : Int32) * (f_X9_within x2 (0 : Int32) (7 : Int32))) + (3 : Int32)) 48 then (f_X9_maturesOf_b50 σ x4 (σ 4 ((((6 : Int32) * (f_X9_within x2 (0 : Int32) (7 : Int32))) + (3 : Int32)).toNatClampNeg))) else none)))) else none))) else none)

def f_X9_bond  (σ : Mem) (v1 : Int32) (v2 : Int32) : Option Int32 := (if (f_X9_isVow σ v1) = 0 then some (-6 : Int32) else (if (f_X9_in v2 (0 : Int32) (5 : Int32)) = 0 then (if v2 = (6 : Int32) then (ob (f_X9_maturesOf σ v1) (fun r5 => some r5)) else some (-7 : Int32)) else (if inb (((6 : Int32) * v1) + v2) 48 then some (σ 4 ((((6 : Int32) * v1) + v2).toNatClampNeg)) else none)))

def f_X9_plaits_b96   (σ : Mem) (v1 : Int32) (v2 : Int32) (k0 : Int32) : Option (Int32 × Mem) := (if k0 = 0 then some ((-3 : Int32), σ) else (if inb (((6 : Int32) * v1) + (4 : Int32)) 48 then (od (ms σ 4 ((((6 : Int32) * v1) + (4 : Int32)).toNatClampNeg) v2) (fun σ19 : Mem => (if inb (((6 : Int32) * v2) + (4 : Int32)) 48 then (od (ms σ19 4 ((((6 : Int32) * v2) + (4 : Int32)).toNatClampNeg) v1) (fun σ21 : Mem => (ob (f_X9_maturesOf σ21 v1) (fun r23 => some (r23, σ21))))) else none))) else none))

def f_X9_plaits_b95   (σ : Mem) (v1 : Int32) (v2 : Int32) : Option (Int32 × Mem) := (f_X9_plaits_b96 σ v1 v2 (0 : Int32))

def f_X9_plaits  (σ : Mem) (v1 : Int32) (v2 : Int32) : Option (Int32 × Mem) := (if (f_X9_isVow σ v1) = 0 then some ((-6 : Int32), σ) else (if (f_X9_isVow σ v2) = 0 then some ((-6 : Int32), σ) else (if v1 = v2 then some ((-6 : Int32), σ) else (ob (f_X9_stands σ v1) (fun r5 => (if r5 = 0 then (f_X9_plaits_b95 σ v1 v2) else (ob (f_X9_stands σ v2) (fun r8 => (if r8 = 0 then (f_X9_plaits_b95 σ v1 v2) else (if inb (((6 : Int32) * v1) + (4 : Int32)) 48 then (if (σ 4 ((((6 : Int32) * v1) + (4 : Int32)).toNatClampNeg)) = (-1 : Int32) then (if inb (((6 : Int32) * v2) + (4 : Int32)) 48 then (if (σ 4 ((((6 : Int32) * v2) + (4 : Int32)).toNatClampNeg)) = (-1 : Int32) then (if inb ((6 : Int32) * v1) 48 then (if inb ((6 : Int32) * v2) 48 then (if (σ 4 (((6 : Int32) * v1).toNatClampNeg)) = (σ 4 (((6 : Int32) * v2).toNatClampNeg)) then (f_X9_plaits_b96 σ v1 v2 (1 : Int32)) else (f_X9_plaits_b95 σ v1 v2)) else none) else none) else (f_X9_plaits_b95 σ v1 v2)) else none) else (f_X9_plaits_b95 σ v1 v2)) else none))))))))))

def f_X9_pass  (σ : Mem) (v1 : Int32) (v2 : Int32) : Option (Int32 × Mem) := (if (f_X9_isVow σ v1) = 0 then some ((-6 : Int32), σ) else (if (f_X9_isMan σ v2) = 0 then some ((-5 : Int32), σ) else (if inb ((6 : Int32) * v1) 48 then (if v2 = (σ 4 (((6 : Int32) * v1).toNatClampNeg)) then some ((-5 : Int32), σ) else (ob (f_X9_stands σ v1) (fun r6 => (if r6 = 0 then some ((-3 : Int32), σ) else (if inb (((6 : Int32) * v1) + (1 : Int32)) 48 then (od (σ 4 ((((6 : Int32) * v1) + (1 : Int32)).toNatClampNeg)) (fun x9 : Int32 => (if inb (((6 : Int32) * v1) + (1 : Int32)) 48 then (od (ms σ 4 ((((6 : Int32) * v1) + (1 : Int32)).toNatClampNeg) v2) (fun σ11 : Mem => some (x9, σ11))) else none))) else none))))) else none)))

def f_X9_begins  (σ : Mem) : Mem := (od (ms (ms (ms σ 0 34 (0 : Int32)) 0 35 (-1 : Int32)) 0 36 (-1 : Int32)) (fun σ1 : Mem => (ms (ms σ1 0 37 (0 : Int32)) 0 38 (0 : Int32))))

def f_X9_grow  (σ : Mem) (v1 : Int32) : Option Mem := (if inb (((4 : Int32) * v1) + (3 : Int32)) 24 then (if (σ 3 ((((4 : Int32) * v1) + (3 : Int32)).toNatClampNeg)) = 0 then (if inb ((4 : Int32) * v1) 24 then (ob2 (f_X9_growsOf σ v1 (σ 0 6)) (fun r5 σ6 => (if inb ((4 : Int32) * v1) 24 then (od (ms σ6 3 (((4 : Int32) * v1).toNatClampNeg) (f_X9_within ((σ 3 (((4 : Int32) * v1).toNatClampNeg)) + r5) (0 : Int32) (999 : Int32))) (fun σ8 : Mem => some σ8)) else none))) else none) else some σ) else none)

def f_X9_shears_b132  (s91 : Mem → Int32 → Option Mem) (σ : Mem) (v1 : Int32) (v3 : Int32) : Option Mem := (s91 σ (v3 + 1))

def f_X9_shears_b91   (v1 : Int32) : Nat → Mem → Int32 → Option Mem
  | 0, _, _ => none
  | n + 1, σ, v3 => (if (σ 0 4) ≤ v3 then some σ else (if inb ((6 : Int32) * v3) 48 then (if (σ 4 (((6 : Int32) * v3).toNatClampNeg)) = v1 then (ob (f_X9_stands σ v3) (fun r15 => (if r15 = 0 then (f_X9_shears_b132 (f_X9_shears_b91 v1 n) σ v1 v3) else (if inb (((6 : Int32) * v3) + (5 : Int32)) 48 then (od (ms σ 4 ((((6 : Int32) * v3) + (5 : Int32)).toNatClampNeg) (2 : Int32)) (fun σ18 : Mem => (f_X9_shears_b132 (f_X9_shears_b91 v1 n) σ18 v1 v3))) else none)))) else (f_X9_shears_b132 (f_X9_shears_b91 v1 n) σ v1 v3)) else none))

def f_X9_shears_b66   (σ : Mem) (v1 : Int32) (k1 : Int32) : Option Mem := (if inb ((4 : Int32) * v1) 24 then (od (ms (ms σ 0 35 k1) 3 (((4 : Int32) * v1).toNatClampNeg) (0 : Int32)) (fun σ8 : Mem => (if inb (((4 : Int32) * v1) + (3 : Int32)) 24 then (od (ms σ8 3 ((((4 : Int32) * v1) + (3 : Int32)).toNatClampNeg) (1 : Int32)) (fun σ10 : Mem => (f_X9_shears_b91 v1 FU σ10 (0 : Int32)))) else none))) else none)

def f_X9_shears_b46   (σ : Mem) (v1 : Int32) (k1 : Int32) : Option Mem := (if ((ms σ 0 36 k1) 0 35) = (-1 : Int32) then (f_X9_shears_b66 (ms σ 0 36 k1) v1 v1) else (f_X9_shears_b66 (ms σ 0 36 k1) v1 ((ms σ 0 36 k1) 0 35)))

def f_X9_shears  (σ : Mem) (v1 : Int32) (v2 : Int32) : Option Mem := (ob2 (f_X9_asksOf σ (2 : Int32) v1 (σ 0 6)) (fun r2 σ3 => (od (ms (ms σ3 0 38 ((σ 0 38) + r2)) 0 34 (((ms σ3 0 38 ((σ 0 38) + r2)) 0 34) + (1 : Int32))) (fun σ4 : Mem => (if (σ4 0 35) = (-1 : Int32) then (f_X9_shears_b46 σ4 v1 v2) else (f_X9_shears_b46 σ4 v1 (σ4 0 36)))))))

def f_X9_isDue_b83   (σ : Mem) (v1 : Int32) (v4 : Int32) (k1 : Int32) (k2 : Int32) : Option Mem := (if inb k1 24 then (if inb (((6 : Int32) * v1) + (5 : Int32)) 48 then (od (ms (ms σ 3 (k1.toNatClampNeg) k2) 4 ((((6 : Int32) * v1) + (5 : Int32)).toNatClampNeg) (1 : Int32)) (fun σ23 : Mem => some (ms σ23 0 37 ((σ23 0 37) + v4)))) else none) else none)

def f_X9_isDue  (σ : Mem) (v1 : Int32) (v2 : Int32) : Option Mem := (if inb ((6 : Int32) * v1) 48 then (if inb (((6 : Int32) * v1) + (2 : Int32)) 48 then (od (σ 4 ((((6 : Int32) * v1) + (2 : Int32)).toNatClampNeg)) (fun x3 : Int32 => (if inb ((4 : Int32) * (σ 4 (((6 : Int32) * v1).toNatClampNeg))) 24 then (ob (f_X9_countsOf σ (σ 4 (((6 : Int32) * v1).toNatClampNeg)) (σ 3 (((4 : Int32) * (σ 4 (((6 : Int32) * v1).toNatClampNeg))).toNatClampNeg))) (fun r6 => (if r6 < x3 then (ob (f_X9_maturesOf σ v1) (fun r9 => (ob (f_X9_graceOf σ (σ 4 (((6 : Int32) * v1).toNatClampNeg))) (fun r11 => (if (σ 0 6) < (r9 + r11) then some σ else (ob (f_X9_shears σ (σ 4 (((6 : Int32) * v1).toNatClampNeg)) v2) (fun σ14 => some σ14))))))) else (if inb ((4 : Int32) * (σ 4 (((6 : Int32) * v1).toNatClampNeg))) 24 then (ob2 (f_X9_asksOf σ (1 : Int32) (σ 4 (((6 : Int32) * v1).toNatClampNeg)) (σ 0 6)) (fun r17 σ18 => (od (((σ 3 (((4 : Int32) * (σ 4 (((6 : Int32) * v1).toNatClampNeg))).toNatClampNeg)) - x3) - r17) (fun x19 : Int32 => (if 0 ≤ x19 then (f_X9_isDue_b83 σ18 v1 x3 ((4 : Int32) * (σ 4 (((6 : Int32) * v1).toNatClampNeg))) x19) else (f_X9_isDue_b83 σ18 v1 x3 ((4 : Int32) * (σ 4 (((6 : Int32) * v1).toNatClampNeg))) (0 : Int32))))))) else none)))) else none))) else none) else none)

def f_X9_weekOf_b57  (s23 : Mem → Int32 → Option Mem) (σ : Mem) (v1 : Int32) (v2 : Int32) : Option Mem := (s23 σ (v2 + 1))

def f_X9_weekOf_b23   (v1 : Int32) : Nat → Mem → Int32 → Option Mem
  | 0, _, _ => none
  | n + 1, σ, v2 => (if (σ 0 4) ≤ v2 then some (ms σ 0 6 ((σ 0 6) + (1 : Int32))) else (ob (f_X9_stands σ v2) (fun r6 => (if r6 = 0 then (f_X9_weekOf_b57 (f_X9_weekOf_b23 v1 n) σ v1 v2) else (ob (f_X9_maturesOf σ v2) (fun r9 => (if (σ 0 6) < r9 then (f_X9_weekOf_b57 (f_X9_weekOf_b23 v1 n) σ v1 v2) else (ob (f_X9_isDue σ v2 v1) (fun σ12 => (f_X9_weekOf_b57 (f_X9_weekOf_b23 v1 n) σ12 v1 v2))))))))))

def f_X9_weekOf_b2   (v1 : Int32) : Nat → Mem → Int32 → Option Mem
  | 0, _, _ => none
  | n + 1, σ, v2 => (if (σ 0 0) ≤ v2 then (f_X9_weekOf_b23 v1 FU σ (0 : Int32)) else (ob (f_X9_grow σ v2) (fun σ3 => ((f_X9_weekOf_b2 v1 n) σ3 (v2 + 1)))))

def f_X9_weekOf  (σ : Mem) (v1 : Int32) : Option Mem := (f_X9_weekOf_b2 v1 FU σ (0 : Int32))

def f_X9_live  (σ : Mem) : Option (Int32 × Mem) := (if (σ 0 6) = (999 : Int32) then some ((-4 : Int32), σ) else (od (f_X9_begins σ)                                                             (fun σ2 : Mem => (ob (f_X9_weekOf σ2 (0 : Int32)) (fun σ4 => some ((σ4 0 34), σ4))))))

def f_X9_keeps_b49  (s2 : Mem → Int32 → Option Mem) (σ : Mem) (v1 : Int32) (k1 : Int32) (k2 : Int32) : Option Mem := (if inb k1 72 then (s2 (ms σ 17 (k1.toNatClampNeg) k2) (v1 + 1)) else none)

def f_X9_keeps_b2   : Nat → Mem → Int32 → Option Mem
  | 0, _, _ => none
  | n + 1, σ, v1 => (if (72 : Int32) ≤ v1 then (od (f_X9_begins (ms σ 0 40 (σ 0 6)))                                                             (fun σ2 : Mem => some σ2)) else (if (24 : Int32) ≤ v1 then (if inb (f_X9_within (v1 - (24 : Int32)) (0 : Int32) (47 : Int32)) 48 then (f_X9_keeps_b49 (f_X9_keeps_b2  n) σ v1 v1 (σ 4 ((f_X9_within (v1 - (24 : Int32)) (0 : Int32) (47 : Int32)).toNatClampNeg))) else none) else (if inb (f_X9_within v1 (0 : Int32) (23 : Int32)) 24 then (f_X9_keeps_b49 (f_X9_keeps_b2  n) σ v1 v1 (σ 3 ((f_X9_within v1 (0 : Int32) (23 : Int32)).toNatClampNeg))) else none)))

def f_X9_keeps  (σ : Mem) : Option Mem := (f_X9_keeps_b2 FU σ (0 : Int32))

def f_X9_laysBack_b40   : Nat → Mem → Int32 → Option Mem
  | 0, _, _ => none
  | n + 1, σ, v1 => (if (48 : Int32) ≤ v1 then some (ms σ 0 6 (σ 0 40)) else (if inb v1 48 then (if inb ((24 : Int32) + v1) 72 then (od (ms σ 18 (((24 : Int32) + v1).toNatClampNeg) (σ 4 (v1.toNatClampNeg))) (fun σ11 : Mem => (if inb ((24 : Int32) + v1) 72 then (if inb v1 48 then (od (ms σ11 4 (v1.toNatClampNeg) (σ11 17 (((24 : Int32) + v1).toNatClampNeg))) (fun σ14 : Mem => ((f_X9_laysBack_b40  n) σ14 (v1 + 1)))) else none) else none))) else none) else none))

def f_X9_laysBack_b2   : Nat → Mem → Int32 → Option Mem
  | 0, _, _ => none
  | n + 1, σ, v1 => (if (24 : Int32) ≤ v1 then (f_X9_laysBack_b40 FU σ (0 : Int32)) else (if inb v1 24 then (if inb v1 72 then (od (ms σ 18 (v1.toNatClampNeg) (σ 3 (v1.toNatClampNeg))) (fun σ4 : Mem => (if inb v1 72 then (if inb v1 24 then (od (ms σ4 3 (v1.toNatClampNeg) (σ4 17 (v1.toNatClampNeg))) (fun σ7 : Mem => ((f_X9_laysBack_b2  n) σ7 (v1 + 1)))) else none) else none))) else none) else none))

def f_X9_laysBack  (σ : Mem) : Option Mem := (f_X9_laysBack_b2 FU σ (0 : Int32))

def f_X9_goes_b6   (v1 : Int32) : Nat → Mem → Int32 → Option Mem
  | 0, _, _ => none
  | n + 1, σ, v2 => (if v1 ≤ v2 then (ob (f_X9_laysBack σ) (fun σ5 => some σ5)) else (ob (f_X9_weekOf σ v2) (fun σ7 => ((f_X9_goes_b6 v1 n) σ7 (v2 + 1)))))

def f_X9_goes  (σ : Mem) (v1 : Int32) : Option Mem := (ob (f_X9_keeps σ) (fun σ2 => (f_X9_goes_b6 v1 FU σ2 (0 : Int32))))

def f_X9_run_b57   (σ : Mem) (v1 : Int32) (v2 : Int32) : Option (Int32 × Mem) := (ob (f_X9_goes σ v1) (fun σ6 => (if v2 = 0 then some ((σ6 0 34), σ6) else (if v2 = 1 then some ((σ6 0 35), σ6) else (if v2 = 2 then some ((σ6 0 36), σ6) else (if v2 = 3 then some ((σ6 0 37), σ6) else (if v2 = 4 then some ((σ6 0 38), σ6) else (if (20 : Int32) ≤ v2 then (if inb (((24 : Int32) + ((6 : Int32) * (v2 - (20 : Int32)))) + (5 : Int32)) 72 then some ((σ6 18 ((((24 : Int32) + ((6 : Int32) * (v2 - (20 : Int32)))) + (5 : Int32)).toNatClampNeg)), σ6) else none) else (if inb ((4 : Int32) * (v2 - (10 : Int32))) 72 then some ((σ6 18 (((4 : Int32) * (v2 - (10 : Int32))).toNatClampNeg)), σ6) else none)))))))))

def f_X9_run  (σ : Mem) (v1 : Int32) (v2 : Int32) : Option (Int32 × Mem) := (if (f_X9_in v1 (0 : Int32) (60 : Int32)) = 0 then some ((-2 : Int32), σ) else (if (f_X9_in v2 (0 : Int32) (4 : Int32)) = 0 then (if (f_X9_in v2 (10 : Int32) ((9 : Int32) + (σ 0 0))) = 0 then (if (f_X9_in v2 (20 : Int32) ((19 : Int32) + (σ 0 4))) = 0 then some ((-7 : Int32), σ) else (f_X9_run_b57 σ v1 v2)) else (f_X9_run_b57 σ v1 v2)) else (f_X9_run_b57 σ v1 v2)))

def f_X9_ripeOf_b59  (s9 : Mem → Int32 → Int32 → Option (Int32 × Mem)) (σ : Mem) (v1 : Int32) (v2 : Int32) (v4 : Int32) (k0 : Int32) : Option (Int32 × Mem) := (s9 σ k0 (v4 + 1))

def f_X9_ripeOf_b9   (v1 : Int32) (v2 : Int32) : Nat → Mem → Int32 → Int32 → Option (Int32 × Mem)
  | 0, _, _, _ => none
  | n + 1, σ, v3, v4 => (if (60 : Int32) ≤ v4 then (ob (f_X9_laysBack σ) (fun σ5 => some (v3, σ5))) else (if v3 = (-1 : Int32) then (ob (f_X9_grow σ v1) (fun σ10 => (if inb ((4 : Int32) * v1) 24 then (ob (f_X9_countsOf (ms σ10 0 6 ((σ10 0 6) + (1 : Int32))) v1 ((ms σ10 0 6 ((σ10 0 6) + (1 : Int32))) 3 (((4 : Int32) * v1).toNatClampNeg))) (fun r13 => (if r13 < v2 then (f_X9_ripeOf_b59 (f_X9_ripeOf_b9 v1 v2 n) (ms σ10 0 6 ((σ10 0 6) + (1 : Int32))) v1 v2 v4 (-1 : Int32)) else (f_X9_ripeOf_b59 (f_X9_ripeOf_b9 v1 v2 n) (ms σ10 0 6 ((σ10 0 6) + (1 : Int32))) v1 v2 v4 v4)))) else none))) else (ob (f_X9_laysBack σ) (fun σ8 => some (v3, σ8)))))

def f_X9_ripeOf  (σ : Mem) (v1 : Int32) (v2 : Int32) : Option (Int32 × Mem) := (ob (f_X9_keeps σ) (fun σ2 => (f_X9_ripeOf_b9 v1 v2 FU σ2 (-1 : Int32) (0 : Int32))))

def f_X9_ripe  (σ : Mem) (v1 : Int32) (v2 : Int32) : Option (Int32 × Mem) := (if (f_X9_isMan σ v1) = 0 then some ((-5 : Int32), σ) else (if (f_X9_in v2 (0 : Int32) (1998 : Int32)) = 0 then some ((-7 : Int32), σ) else (ob2 (f_X9_ripeOf σ v1 v2) (fun r4 σ5 => some (r4, σ5)))))

def f_X9_soonest  (σ : Mem) (v1 : Int32) (v2 : Int32) : Option (Int32 × Mem) := (if (f_X9_isMan σ v1) = 0 then some ((-5 : Int32), σ) else (if (f_X9_in v2 (1 : Int32) (200 : Int32)) = 0 then some ((-7 : Int32), σ) else (if inb (((4 : Int32) * v1) + (3 : Int32)) 24 then (if (σ 3 ((((4 : Int32) * v1) + (3 : Int32)).toNatClampNeg)) = (1 : Int32) then some ((-1 : Int32), σ) else (ob2 (f_X9_ripeOf σ v1 v2) (fun r6 σ7 => some (r6, σ7)))) else none)))

def f_X9_offersWrong_b96  (s55 : Int32 → Int32 → Option Int32) (σ : Mem) (v1 : Int32) (v3 : Int32) (k0 : Int32) (k1 : Int32) (k2 : Int32) (k3 : Int32) : Option Int32 := (s55 (k0 &&& (f_X9_in k1 k2 k3)) (v3 + 1))

def f_X9_offersWrong_b55   (σ : Mem) (v1 : Int32) : Nat → Int32 → Int32 → Option Int32
  | 0, _, _ => none
  | n + 1, v2, v3 => (if inb v1 4 then (if (σ 10 (v1.toNatClampNeg)) ≤ v3 then (if v2 = 0 then some (-2 : Int32) else some (0 : Int32)) else (if inb (((40 : Int32) * v1) + v3) 160 then (if (irm v3 (2 : Int32)) = 0 then (f_X9_offersWrong_b96 (f_X9_offersWrong_b55 σ v1 n) σ v1 v3 v2 (σ 11 ((((40 : Int32) * v1) + v3).toNatClampNeg)) ((1 : Int32) - (irm v3 (2 : Int32))) (200 : Int32)) else (f_X9_offersWrong_b96 (f_X9_offersWrong_b55 σ v1 n) σ v1 v3 v2 (σ 11 ((((40 : Int32) * v1) + v3).toNatClampNeg)) ((1 : Int32) - (irm v3 (2 : Int32))) (59 : Int32))) else none)) else none)

def f_X9_offersWrong_b52   (σ : Mem) (v1 : Int32) (k0 : Int32) : Option Int32 := (f_X9_offersWrong_b55 σ v1 FU k0 (0 : Int32))

def f_X9_offersWrong_b51   (σ : Mem) (v1 : Int32) : Option Int32 := (f_X9_offersWrong_b52 σ v1 (0 : Int32))

def f_X9_offersWrong  (σ : Mem) (v1 : Int32) : Option Int32 := (if (f_X9_in v1 (0 : Int32) (3 : Int32)) = 0 then some (-2 : Int32) else (if inb v1 4 then (if (σ 9 (v1.toNatClampNeg)) = (-1 : Int32) then some (-11 : Int32) else (if inb v1 4 then (if (12 : Int32) < (σ 10 (v1.toNatClampNeg)) then (f_X9_offersWrong_b51 σ v1) else (if inb v1 4 then (if (irm (σ 10 (v1.toNatClampNeg)) (2 : Int32)) = 0 then (f_X9_offersWrong_b52 σ v1 (1 : Int32)) else (f_X9_offersWrong_b51 σ v1)) else none)) else none)) else none))

def f_X9_canTake_b154  (s10 : Mem → Int32 → Int32 → Option (Int32 × Mem)) (s25 : Mem → Int32 → Int32 → Option (Int32 × Mem)) (σ : Mem) (v1 : Int32) (v2 : Int32) (v3 : Int32) (v4 : Int32) (v5 : Int32) (v6 : Int32) : Option (Int32 × Mem) := (s25 σ v4 (v6 + 1))

def f_X9_canTake_b153  (s10 : Mem → Int32 → Int32 → Option (Int32 × Mem)) (s25 : Mem → Int32 → Int32 → Option (Int32 × Mem)) (σ : Mem) (v1 : Int32) (v2 : Int32) (v3 : Int32) (v4 : Int32) (v5 : Int32) (v6 : Int32) (k1 : Int32) (k2 : Int32) : Option (Int32 × Mem) := (if inb k1 24 then (f_X9_canTake_b154 s10 s25 (ms σ 3 (k1.toNatClampNeg) k2) v1 v2 v3 v4 v5 v6) else none)

def f_X9_canTake_b103  (s10 : Mem → Int32 → Int32 → Option (Int32 × Mem)) (s25 : Mem → Int32 → Int32 → Option (Int32 × Mem)) (σ : Mem) (v1 : Int32) (v2 : Int32) (v3 : Int32) (v5 : Int32) (v6 : Int32) (v7 : Int32) (k0 : Int32) (k1 : Int32) : Option (Int32 × Mem) := (if inb ((4 : Int32) * v2) 24 then (if inb v7 160 then (ob2 (f_X9_asksOf σ (1 : Int32) v2 (σ 0 6)) (fun r22 σ23 => (od (((σ 3 (((4 : Int32) * v2).toNatClampNeg)) - (σ 11 (v7.toNatClampNeg))) - r22) (fun x24 : Int32 => (if 0 ≤ x24 then (f_X9_canTake_b153 s10 s25 σ23 v1 v2 v3 (k0 &&& k1) v5 v6 ((4 : Int32) * v2) x24) else (f_X9_canTake_b153 s10 s25 σ23 v1 v2 v3 (k0 &&& k1) v5 v6 ((4 : Int32) * v2) (0 : Int32))))))) else none) else none)

def f_X9_canTake_b25  (s10 : Mem → Int32 → Int32 → Option (Int32 × Mem)) (v1 : Int32) (v2 : Int32) (v3 : Int32) (v5 : Int32) : Nat → Mem → Int32 → Int32 → Option (Int32 × Mem)
  | 0, _, _, _ => none
  | n + 1, σ, v4, v6 => (if inb v1 4 then (if ((σ 10 (v1.toNatClampNeg)) / (2 : Int32)) ≤ v6 then (s10 (ms σ 0 6 ((σ 0 6) + (1 : Int32))) v4 (v5 + 1)) else (od (((40 : Int32) * v1) + ((2 : Int32) * v6)) (fun x10 : Int32 => (if ((v3 >>> (v6 &&& 31)) &&& (1 : Int32)) = (1 : Int32) then (if inb (x10 + (1 : Int32)) 160 then (if (σ 11 ((x10 + (1 : Int32)).toNatClampNeg)) = v5 then (if inb ((4 : Int32) * v2) 24 then (ob (f_X9_countsOf σ v2 (σ 3 (((4 : Int32) * v2).toNatClampNeg))) (fun r16 => (if inb x10 160 then (if r16 < (σ 11 (x10.toNatClampNeg)) then (f_X9_canTake_b103 s10 (f_X9_canTake_b25 s10 v1 v2 v3 v5 n) σ v1 v2 v3 v5 v6 x10 v4 (0 : Int32)) else (f_X9_canTake_b103 s10 (f_X9_canTake_b25 s10 v1 v2 v3 v5 n) σ v1 v2 v3 v5 v6 x10 v4 (1 : Int32))) else none))) else none) else (f_X9_canTake_b154 s10 (f_X9_canTake_b25 s10 v1 v2 v3 v5 n) σ v1 v2 v3 v4 v5 v6)) else none) else (f_X9_canTake_b154 s10 (f_X9_canTake_b25 s10 v1 v2 v3 v5 n) σ v1 v2 v3 v4 v5 v6))))) else none)

def f_X9_canTake_b10   (v1 : Int32) (v2 : Int32) (v3 : Int32) : Nat → Mem → Int32 → Int32 → Option (Int32 × Mem)
  | 0, _, _, _ => none
  | n + 1, σ, v4, v5 => (if (60 : Int32) ≤ v5 then (ob (f_X9_laysBack σ) (fun σ5 => (if v4 = 0 ∨ v4 = 1 then some (v4, σ5) else none))) else (ob (f_X9_grow σ v2) (fun σ7 => (f_X9_canTake_b25 (f_X9_canTake_b10 v1 v2 v3 n) v1 v2 v3 v5 FU σ7 v4 (0 : Int32)))))

def f_X9_canTake  (σ : Mem) (v1 : Int32) (v2 : Int32) (v3 : Int32) : Option (Int32 × Mem) := (ob (f_X9_keeps σ) (fun σ2 => (f_X9_canTake_b10 v1 v2 v3 FU σ2 (1 : Int32) (0 : Int32))))

def f_X9_take_b166   (σ : Mem) (v3 : Int32) (v5 : Int32) (v6 : Int32) : Option (Int32 × Mem) := (if v3 = 0 then some (v5, σ) else some (v6, σ))

def f_X9_take_b160  (s47 : Mem → Int32 → Int32 → Int32 → Option (Int32 × Mem)) (σ : Mem) (v1 : Int32) (v2 : Int32) (v3 : Int32) (v5 : Int32) (v6 : Int32) (v7 : Int32) : Option (Int32 × Mem) := (s47 σ v5 v6 (v7 + 1))

def f_X9_take_b125  (s47 : Mem → Int32 → Int32 → Int32 → Option (Int32 × Mem)) (s81 : Mem → Int32 → Int32 → Option (Int32 × Mem)) (σ : Mem) (v1 : Int32) (v2 : Int32) (v3 : Int32) (v5 : Int32) (v6 : Int32) (v7 : Int32) (v9 : Int32) (k0 : Int32) (k1 : Int32) : Option (Int32 × Mem) := (s81 σ (k0 + k1) (v9 + 1))

def f_X9_take_b81  (s47 : Mem → Int32 → Int32 → Int32 → Option (Int32 × Mem)) (v1 : Int32) (v2 : Int32) (v3 : Int32) (v5 : Int32) (v6 : Int32) (v7 : Int32) : Nat → Mem → Int32 → Int32 → Option (Int32 × Mem)
  | 0, _, _, _ => none
  | n + 1, σ, v8, v9 => (if inb v1 4 then (if ((σ 10 (v1.toNatClampNeg)) / (2 : Int32)) ≤ v9 then (if v8 ≤ v6 then (f_X9_take_b160 s47 σ v1 v2 v3 v5 v6 v7) else (ob2 (f_X9_canTake σ v1 v2 v7) (fun r15 σ16 => (if r15 = 0 then (f_X9_take_b160 s47 σ16 v1 v2 v3 v5 v6 v7) else (f_X9_take_b160 s47 σ16 v1 v2 v3 v7 v8 v7))))) else (if ((v7 >>> (v9 &&& 31)) &&& (1 : Int32)) = (1 : Int32) then (if inb (((40 : Int32) * v1) + ((2 : Int32) * v9)) 160 then (f_X9_take_b125 s47 (f_X9_take_b81 s47 v1 v2 v3 v5 v6 v7 n) σ v1 v2 v3 v5 v6 v7 v9 v8 (σ 11 ((((40 : Int32) * v1) + ((2 : Int32) * v9)).toNatClampNeg))) else none) else (f_X9_take_b125 s47 (f_X9_take_b81 s47 v1 v2 v3 v5 v6 v7 n) σ v1 v2 v3 v5 v6 v7 v9 v8 (0 : Int32)))) else none)

def f_X9_take_b47   (v1 : Int32) (v2 : Int32) (v3 : Int32) : Nat → Mem → Int32 → Int32 → Int32 → Option (Int32 × Mem)
  | 0, _, _, _, _ => none
  | n + 1, σ, v5, v6, v7 => (if inb v1 4 then (if ((1 : Int32) <<< (((σ 10 (v1.toNatClampNeg)) / (2 : Int32)) &&& 31)) ≤ v7 then (f_X9_take_b166 σ v3 v5 v6) else (if inb (((4 : Int32) * v2) + (3 : Int32)) 24 then (if (σ 3 ((((4 : Int32) * v2) + (3 : Int32)).toNatClampNeg)) = 0 then (f_X9_take_b81 (f_X9_take_b47 v1 v2 v3 n) v1 v2 v3 v5 v6 v7 FU σ (0 : Int32) (0 : Int32)) else (f_X9_take_b166 σ v3 v5 v6)) else none)) else none)

def f_X9_take  (σ : Mem) (v1 : Int32) (v2 : Int32) (v3 : Int32) : Option (Int32 × Mem) := (ob (f_X9_offersWrong σ v1) (fun r2 => (if r2 = 0 then (if (f_X9_isMan σ v2) = 0 then some ((-5 : Int32), σ) else (if (f_X9_in v3 (0 : Int32) (1 : Int32)) = 0 then some ((-7 : Int32), σ) else (f_X9_take_b47 v1 v2 v3 FU σ (0 : Int32) (0 : Int32) (1 : Int32)))) else some (r2, σ))))

def f_X9_canBe_b52   (σ : Mem) (v1 : Int32) (v2 : Int32) : Nat → Int32 → Option Int32
  | 0, _ => none
  | n + 1, v3 => (if v2 ≤ v3 then some (1 : Int32) else (if inb v3 8 then (if inb ((6 : Int32) * (σ 19 (v3.toNatClampNeg))) 48 then (if inb (((6 : Int32) * v1) + (1 : Int32)) 48 then (if (σ 4 (((6 : Int32) * (σ 19 (v3.toNatClampNeg))).toNatClampNeg)) = (σ 4 ((((6 : Int32) * v1) + (1 : Int32)).toNatClampNeg)) then some (0 : Int32) else ((f_X9_canBe_b52 σ v1 v2 n) (v3 + 1))) else none) else none) else none))

def f_X9_canBe_b50   (σ : Mem) (v1 : Int32) (v2 : Int32) : Option Int32 := (f_X9_canBe_b52 σ v1 v2 FU (1 : Int32))

def f_X9_canBe  (σ : Mem) (v1 : Int32) (v2 : Int32) : Option Int32 := (ob (f_X9_stands σ v1) (fun r2 => (if r2 = 0 then some (0 : Int32) else (if v2 ≤ 0 then (f_X9_canBe_b50 σ v1 v2) else (if inb ((6 : Int32) * v1) 48 then (if inb (f_X9_within (v2 - (1 : Int32)) (0 : Int32) (7 : Int32)) 8 then (if inb (((6 : Int32) * (σ 19 ((f_X9_within (v2 - (1 : Int32)) (0 : Int32) (7 : Int32)).toNatClampNeg))) + (1 : Int32)) 48 then (if (σ 4 (((6 : Int32) * v1).toNatClampNeg)) = (σ 4 ((((6 : Int32) * (σ 19 ((f_X9_within (v2 - (1 : Int32)) (0 : Int32) (7 : Int32)).toNatClampNeg))) + (1 : Int32)).toNatClampNeg)) then (f_X9_canBe_b50 σ v1 v2) else some (0 : Int32)) else none) else none) else none)))))

def f_X9_closes  (σ : Mem) (v1 : Int32) : Option Int32 := (if v1 ≤ 0 then some (0 : Int32) else (if inb v1 8 then (if inb (((6 : Int32) * (σ 19 (v1.toNatClampNeg))) + (1 : Int32)) 48 then (if inb ((6 : Int32) * (σ 19 0)) 48 then (if (σ 4 ((((6 : Int32) * (σ 19 (v1.toNatClampNeg))) + (1 : Int32)).toNatClampNeg)) = (σ 4 (((6 : Int32) * (σ 19 0)).toNatClampNeg)) then some (1 : Int32) else some (0 : Int32)) else none) else none) else none))

def f_X9_findsRing_b93  (s9 : Mem → Int32 → Option (Int32 × Mem)) (σ : Mem) (v1 : Int32) : Option (Int32 × Mem) := (s9 σ v1)

def f_X9_findsRing_b45  (s9 : Mem → Int32 → Option (Int32 × Mem)) (σ : Mem) (v1 : Int32) (v2 : Int32) : Option (Int32 × Mem) := (if v2 = (σ 0 4) then (f_X9_findsRing_b93 s9 σ (v1 + (-1))) else (if inb v1 8 then (ob (f_X9_closes (ms σ 19 (v1.toNatClampNeg) v2) v1) (fun r11 => (if r11 = 0 then (if inb (v1 + 1) 8 then (od (ms (ms σ 19 (v1.toNatClampNeg) v2) 19 ((v1 + 1).toNatClampNeg) (-1 : Int32)) (fun σ14 : Mem => (f_X9_findsRing_b93 s9 σ14 (v1 + 1)))) else none) else (od (ms (ms σ 19 (v1.toNatClampNeg) v2) 0 43 (v1 + (1 : Int32))) (fun σ15 : Mem => some ((1 : Int32), σ15)))))) else none))

def f_X9_findsRing_b22  (s9 : Mem → Int32 → Option (Int32 × Mem)) (v1 : Int32) : Nat → Mem → Int32 → Option (Int32 × Mem)
  | 0, _, _ => none
  | n + 1, σ, v2 => (if (σ 0 4) ≤ v2 then (f_X9_findsRing_b45 s9 σ v1 v2) else (ob (f_X9_canBe σ v2 v1) (fun r6 => (if r6 = 0 then ((f_X9_findsRing_b22 s9 v1 n) σ (v2 + 1)) else (f_X9_findsRing_b45 s9 σ v1 v2)))))

def f_X9_findsRing_b9   : Nat → Mem → Int32 → Option (Int32 × Mem)
  | 0, _, _ => none
  | n + 1, σ, v1 => (if v1 < 0 then some ((0 : Int32), (ms σ 0 43 (0 : Int32))) else (if inb v1 8 then (od ((σ 19 (v1.toNatClampNeg)) + (1 : Int32)) (fun x3 : Int32 => (f_X9_findsRing_b22 (f_X9_findsRing_b9  n) v1 FU σ x3))) else none))

def f_X9_findsRing  (σ : Mem) : Option (Int32 × Mem) := (f_X9_findsRing_b9 FU (ms σ 19 0 (-1 : Int32)) (0 : Int32))

def f_X9_leastOnWay_b43  (s4 : Int32 → Int32 → Option Int32) (σ : Mem) (v2 : Int32) (k0 : Int32) : Option Int32 := (s4 k0 (v2 + 1))

def f_X9_leastOnWay_b38  (s4 : Int32 → Int32 → Option Int32) (σ : Mem) (v2 : Int32) (v3 : Int32) : Option Int32 := (f_X9_leastOnWay_b43 s4 σ v2 v3)

def f_X9_leastOnWay_b4   (σ : Mem) : Nat → Int32 → Int32 → Option Int32
  | 0, _, _ => none
  | n + 1, v1, v2 => (if (σ 0 43) ≤ v2 then some v1 else (if inb v2 8 then (if inb (((6 : Int32) * (σ 19 (v2.toNatClampNeg))) + (2 : Int32)) 48 then (od (σ 4 ((((6 : Int32) * (σ 19 (v2.toNatClampNeg))) + (2 : Int32)).toNatClampNeg)) (fun x4 : Int32 => (if v2 = 0 then (f_X9_leastOnWay_b38 (f_X9_leastOnWay_b4 σ n) σ v2 x4) else (if v1 ≤ x4 then (f_X9_leastOnWay_b43 (f_X9_leastOnWay_b4 σ n) σ v2 v1) else (f_X9_leastOnWay_b38 (f_X9_leastOnWay_b4 σ n) σ v2 x4))))) else none) else none))

def f_X9_leastOnWay  (σ : Mem) : Option Int32 := (f_X9_leastOnWay_b4 σ FU (0 : Int32) (0 : Int32))

def f_X9_ring_b21   (v1 : Int32) : Nat → Mem → Int32 → Int32 → Option (Int32 × Mem)
  | 0, _, _, _ => none
  | n + 1, σ, v2, v3 => (if (σ 0 43) ≤ v3 then (if v1 = 0 then some (v2, σ) else (ob (f_X9_leastOnWay σ) (fun r8 => some (r8, σ)))) else (if inb v3 8 then (od (v2 ||| ((1 : Int32) <<< ((σ 19 (v3.toNatClampNeg)) &&& 31))) (fun x10 : Int32 => ((f_X9_ring_b21 v1 n) σ x10 (v3 + 1)))) else none))

def f_X9_ring  (σ : Mem) (v1 : Int32) : Option (Int32 × Mem) := (if (f_X9_in v1 (0 : Int32) (1 : Int32)) = 0 then some ((-2 : Int32), σ) else (ob2 (f_X9_findsRing σ) (fun r3 σ4 => (f_X9_ring_b21 v1 FU σ4 (0 : Int32) (0 : Int32)))))

def f_X9_clears  (σ : Mem) (v1 : Int32) : Option Mem := (if inb (((6 : Int32) * v1) + (4 : Int32)) 48 then (od (σ 4 ((((6 : Int32) * v1) + (4 : Int32)).toNatClampNeg)) (fun x2 : Int32 => (if inb (((6 : Int32) * v1) + (5 : Int32)) 48 then (od (ms σ 4 ((((6 : Int32) * v1) + (5 : Int32)).toNatClampNeg) (3 : Int32)) (fun σ4 : Mem => (if inb (((6 : Int32) * v1) + (4 : Int32)) 48 then (od (ms σ4 4 ((((6 : Int32) * v1) + (4 : Int32)).toNatClampNeg) (-1 : Int32)) (fun σ6 : Mem => (if x2 = (-1 : Int32) then some σ6 else (if inb (((6 : Int32) * x2) + (4 : Int32)) 48 then (od (ms σ6 4 ((((6 : Int32) * x2) + (4 : Int32)).toNatClampNeg) (-1 : Int32)) (fun σ9 : Mem => some σ9)) else none)))) else none))) else none))) else none)

def f_X9_clear_b77  (s2 : Mem → Int32 → Option (Int32 × Mem)) (s25 : Mem → Int32 → Option (Int32 × Mem)) (σ : Mem) (v1 : Int32) (v2 : Int32) (v3 : Int32) : Option (Int32 × Mem) := (s25 σ (v3 + 1))

def f_X9_clear_b25  (s2 : Mem → Int32 → Option (Int32 × Mem)) (v1 : Int32) (v2 : Int32) : Nat → Mem → Int32 → Option (Int32 × Mem)
  | 0, _, _ => none
  | n + 1, σ, v3 => (if (σ 0 43) ≤ v3 then (s2 σ v1) else (if inb v3 8 then (od (((6 : Int32) * (σ 19 (v3.toNatClampNeg))) + (2 : Int32)) (fun x9 : Int32 => (if inb x9 48 then (if inb x9 48 then (od (ms σ 4 (x9.toNatClampNeg) ((σ 4 (x9.toNatClampNeg)) - v2)) (fun σ12 : Mem => (if inb x9 48 then (if (σ12 4 (x9.toNatClampNeg)) = 0 then (if inb v3 8 then (ob (f_X9_clears σ12 (σ12 19 (v3.toNatClampNeg))) (fun σ17 => (f_X9_clear_b77 s2 (f_X9_clear_b25 s2 v1 v2 n) σ17 v1 v2 v3))) else none) else (f_X9_clear_b77 s2 (f_X9_clear_b25 s2 v1 v2 n) σ12 v1 v2 v3)) else none))) else none) else none))) else none))

def f_X9_clear_b2   : Nat → Mem → Int32 → Option (Int32 × Mem)
  | 0, _, _ => none
  | n + 1, σ, v1 => (ob2 (f_X9_findsRing σ) (fun r2 σ3 => (if r2 = 0 then some (v1, σ3) else (ob (f_X9_leastOnWay σ3) (fun r6 => (f_X9_clear_b25 (f_X9_clear_b2  n) (v1 + (r6 * (σ3 0 43))) r6 FU σ3 (0 : Int32)))))))

def f_X9_clear  (σ : Mem) : Option (Int32 × Mem) := (f_X9_clear_b2 FU σ (0 : Int32))

def f_X9_net_b68  (s21 : Int32 → Int32 → Option Int32) (σ : Mem) (v1 : Int32) (v3 : Int32) (k0 : Int32) (k1 : Int32) : Option Int32 := (s21 (k0 + k1) (v3 + 1))

def f_X9_net_b67  (s21 : Int32 → Int32 → Option Int32) (σ : Mem) (v1 : Int32) (v3 : Int32) (k0 : Int32) : Option Int32 := (f_X9_net_b68 s21 σ v1 v3 k0 (0 : Int32))

def f_X9_net_b21   (σ : Mem) (v1 : Int32) : Nat → Int32 → Int32 → Option Int32
  | 0, _, _ => none
  | n + 1, v2, v3 => (if (σ 0 4) ≤ v3 then some v2 else (if inb (((6 : Int32) * v3) + (1 : Int32)) 48 then (if (σ 4 ((((6 : Int32) * v3) + (1 : Int32)).toNatClampNeg)) = v1 then (ob (f_X9_stands σ v3) (fun r8 => (if r8 = 0 then (f_X9_net_b67 (f_X9_net_b21 σ v1 n) σ v1 v3 v2) else (if inb (((6 : Int32) * v3) + (2 : Int32)) 48 then (f_X9_net_b68 (f_X9_net_b21 σ v1 n) σ v1 v3 v2 (σ 4 ((((6 : Int32) * v3) + (2 : Int32)).toNatClampNeg))) else none)))) else (f_X9_net_b67 (f_X9_net_b21 σ v1 n) σ v1 v3 v2)) else none))

def f_X9_net  (σ : Mem) (v1 : Int32) : Option Int32 := (if (f_X9_isMan σ v1) = 0 then some (-1000005 : Int32) else (ob (f_X9_owedBy σ v1) (fun r3 => (f_X9_net_b21 σ v1 FU (-r3) (0 : Int32)))))

def f_X9_fallStep_b138  (s4 : Int32 → Int32 → Option Int32) (σ : Mem) (v1 : Int32) (v3 : Int32) (k0 : Int32) (k1 : Int32) : Option Int32 := (s4 (k0 ||| k1) (v3 + 1))

def f_X9_fallStep_b111  (s4 : Int32 → Int32 → Option Int32) (s30 : Int32 → Int32 → Option Int32) (σ : Mem) (v1 : Int32) (v2 : Int32) (v3 : Int32) (v5 : Int32) (k0 : Int32) (k1 : Int32) : Option Int32 := (s30 (k0 + k1) (v5 + 1))

def f_X9_fallStep_b86  (s4 : Int32 → Int32 → Option Int32) (s30 : Int32 → Int32 → Option Int32) (σ : Mem) (v1 : Int32) (v2 : Int32) (v3 : Int32) (v4 : Int32) (v5 : Int32) (k0 : Int32) : Option Int32 := (if k0 = 0 then (f_X9_fallStep_b111 s4 s30 σ v1 v2 v3 v5 v4 (0 : Int32)) else (if inb (((6 : Int32) * v5) + (2 : Int32)) 48 then (f_X9_fallStep_b111 s4 s30 σ v1 v2 v3 v5 v4 (σ 4 ((((6 : Int32) * v5) + (2 : Int32)).toNatClampNeg))) else none))

def f_X9_fallStep_b85  (s4 : Int32 → Int32 → Option Int32) (s30 : Int32 → Int32 → Option Int32) (σ : Mem) (v1 : Int32) (v2 : Int32) (v3 : Int32) (v4 : Int32) (v5 : Int32) : Option Int32 := (f_X9_fallStep_b86 s4 s30 σ v1 v2 v3 v4 v5 (0 : Int32))

def f_X9_fallStep_b30  (s4 : Int32 → Int32 → Option Int32) (σ : Mem) (v1 : Int32) (v2 : Int32) (v3 : Int32) : Nat → Int32 → Int32 → Option Int32
  | 0, _, _ => none
  | n + 1, v4, v5 => (if (σ 0 4) ≤ v5 then (ob (f_X9_owedBy σ v3) (fun r7 => (if r7 ≤ v4 then (f_X9_fallStep_b138 s4 σ v1 v3 v2 (0 : Int32)) else (f_X9_fallStep_b138 s4 σ v1 v3 v2 ((1 : Int32) <<< (v3 &&& 31)))))) else (if inb (((6 : Int32) * v5) + (1 : Int32)) 48 then (if (σ 4 ((((6 : Int32) * v5) + (1 : Int32)).toNatClampNeg)) = v3 then (ob (f_X9_stands σ v5) (fun r12 => (if r12 = 0 then (f_X9_fallStep_b85 s4 (f_X9_fallStep_b30 s4 σ v1 v2 v3 n) σ v1 v2 v3 v4 v5) else (if inb ((6 : Int32) * v5) 48 then (if ((v1 >>> ((σ 4 (((6 : Int32) * v5).toNatClampNeg)) &&& 31)) &&& (1 : Int32)) = 0 then (f_X9_fallStep_b86 s4 (f_X9_fallStep_b30 s4 σ v1 v2 v3 n) σ v1 v2 v3 v4 v5 (1 : Int32)) else (f_X9_fallStep_b85 s4 (f_X9_fallStep_b30 s4 σ v1 v2 v3 n) σ v1 v2 v3 v4 v5)) else none)))) else (f_X9_fallStep_b85 s4 (f_X9_fallStep_b30 s4 σ v1 v2 v3 n) σ v1 v2 v3 v4 v5)) else none))

def f_X9_fallStep_b4   (σ : Mem) (v1 : Int32) : Nat → Int32 → Int32 → Option Int32
  | 0, _, _ => none
  | n + 1, v2, v3 => (if (σ 0 0) ≤ v3 then some v2 else (if inb ((4 : Int32) * v3) 24 then (ob (f_X9_countsOf σ v3 (σ 3 (((4 : Int32) * v3).toNatClampNeg))) (fun r4 => (f_X9_fallStep_b30 (f_X9_fallStep_b4 σ v1 n) σ v1 v2 v3 FU r4 (0 : Int32)))) else none))

def f_X9_fallStep  (σ : Mem) (v1 : Int32) : Option Int32 := (f_X9_fallStep_b4 σ v1 FU v1 (0 : Int32))

def f_X9_fallen_b13   : Nat → Mem → Int32 → Int32 → Option (Int32 × Mem)
  | 0, _, _, _ => none
  | n + 1, σ, v2, v3 => (if v3 = v2 then some (v2, σ) else (ob (f_X9_fallStep (ms σ 0 44 ((σ 0 44) + (1 : Int32))) v3) (fun r5 => ((f_X9_fallen_b13  n) (ms σ 0 44 ((σ 0 44) + (1 : Int32))) v3 r5))))

def f_X9_fallen  (σ : Mem) (v1 : Int32) : Option (Int32 × Mem) := (ob (f_X9_fallStep σ v1) (fun r2 => (f_X9_fallen_b13 FU (ms σ 0 44 (0 : Int32)) v1 r2)))

def f_X9_falls  (σ : Mem) (v1 : Int32) (v2 : Int32) : Option (Int32 × Mem) := (if (f_X9_in v1 (0 : Int32) (((1 : Int32) <<< ((σ 0 0) &&& 31)) - (1 : Int32))) = 0 then some ((-2 : Int32), σ) else (if (f_X9_in v2 (0 : Int32) (1 : Int32)) = 0 then some ((-2 : Int32), σ) else (ob2 (f_X9_fallen σ v1) (fun r4 σ5 => (if v2 = 0 then some (r4, σ5) else some ((σ5 0 44), σ5))))))

def f_X9_pillar_b66  (s19 : Mem → Int32 → Int32 → Int32 → Option (Int32 × Mem)) (σ : Mem) (v1 : Int32) (v2 : Int32) (v4 : Int32) (k0 : Int32) : Option (Int32 × Mem) := (s19 σ v2 k0 (v4 + 1))

def f_X9_pillar_b53  (s19 : Mem → Int32 → Int32 → Int32 → Option (Int32 × Mem)) (σ : Mem) (v1 : Int32) (v3 : Int32) (v4 : Int32) (v5 : Int32) (k0 : Int32) : Option (Int32 × Mem) := (if v5 ≤ v3 then (f_X9_pillar_b66 s19 σ v1 k0 v4 v3) else (f_X9_pillar_b66 s19 σ v1 k0 v4 v5))

def f_X9_pillar_b19   (v1 : Int32) : Nat → Mem → Int32 → Int32 → Int32 → Option (Int32 × Mem)
  | 0, _, _, _, _ => none
  | n + 1, σ, v2, v3, v4 => (if (σ 0 0) ≤ v4 then (if v1 = 0 then some (v2, σ) else some (v3, σ)) else (ob2 (f_X9_fallen σ ((1 : Int32) <<< (v4 &&& 31))) (fun r5 σ6 => (ob (f_X9_ones r5) (fun r8 => (if r8 ≤ v3 then (f_X9_pillar_b53 (f_X9_pillar_b19 v1 n) σ6 v1 v3 v4 r8 v2) else (f_X9_pillar_b53 (f_X9_pillar_b19 v1 n) σ6 v1 v3 v4 r8 v4)))))))

def f_X9_pillar  (σ : Mem) (v1 : Int32) : Option (Int32 × Mem) := (if (f_X9_in v1 (0 : Int32) (1 : Int32)) = 0 then some ((-2 : Int32), σ) else (f_X9_pillar_b19 v1 FU σ (-1 : Int32) (-1 : Int32) (0 : Int32)))

def f_X9_tells_b12   : Nat → Mem → Int32 → Int32 → Int32 → Option (Int32 × Mem)
  | 0, _, _, _, _ => none
  | n + 1, σ, v2, v3, v4 => (if v4 < 0 then (if v3 = (((1 : Int32) <<< ((σ 0 46) &&& 31)) - (1 : Int32)) then some ((1 : Int32), σ) else some ((0 : Int32), σ)) else (if (f_X9_within (σ 0 46) (1 : Int32) (6 : Int32)) ≠ 0 then (if inb v4 6 then (od (ms σ 21 (v4.toNatClampNeg) (irm v2 (f_X9_within (σ 0 46) (1 : Int32) (6 : Int32)))) (fun σ5 : Mem => (if (f_X9_within (σ5 0 46) (1 : Int32) (6 : Int32)) ≠ 0 then (od (v2 / (f_X9_within (σ5 0 46) (1 : Int32) (6 : Int32))) (fun x7 : Int32 => (if inb v4 6 then (od (v3 ||| ((1 : Int32) <<< ((σ5 21 (v4.toNatClampNeg)) &&& 31))) (fun x9 : Int32 => ((f_X9_tells_b12  n) σ5 x7 x9 (v4 + (-1))))) else none))) else none))) else none) else none))

def f_X9_tells  (σ : Mem) (v1 : Int32) : Option (Int32 × Mem) := (f_X9_tells_b12 FU σ v1 (0 : Int32) ((σ 0 46) - (1 : Int32)))

def f_X9_waits_b52  (s7 : Mem → Int32 → Int32 → Int32 → Option (Int32 × Mem)) (σ : Mem) (v1 : Int32) (v2 : Int32) (v4 : Int32) (v5 : Int32) (k0 : Int32) (k1 : Int32) : Option (Int32 × Mem) := (ob2 (f_X9_asksOf σ (1 : Int32) v5 (σ 0 6)) (fun r8 σ9 => (s7 σ9 (v2 + (r8 + (1 : Int32))) (k0 + k1) (v4 + 1))))

def f_X9_waits_b7   (v1 : Int32) : Nat → Mem → Int32 → Int32 → Int32 → Option (Int32 × Mem)
  | 0, _, _, _, _ => none
  | n + 1, σ, v2, v3, v4 => (if (σ 0 46) ≤ v4 then some (v3, σ) else (if inb v4 6 then (if inb (σ 21 (v4.toNatClampNeg)) 6 then (od (σ 20 ((σ 21 (v4.toNatClampNeg)).toNatClampNeg)) (fun x4 : Int32 => (if v1 = 0 then (f_X9_waits_b52 (f_X9_waits_b7 v1 n) σ v1 v2 v4 x4 v3 v2) else (if inb (((4 : Int32) * x4) + (2 : Int32)) 24 then (f_X9_waits_b52 (f_X9_waits_b7 v1 n) σ v1 v2 v4 x4 v3 (v2 * (σ 3 ((((4 : Int32) * x4) + (2 : Int32)).toNatClampNeg)))) else none)))) else none) else none))

def f_X9_waits  (σ : Mem) (v1 : Int32) : Option (Int32 × Mem) := (f_X9_waits_b7 v1 FU σ (0 : Int32) (0 : Int32) (0 : Int32))

def f_X9_digitsNow_b4   (σ : Mem) : Nat → Int32 → Int32 → Option Int32
  | 0, _, _ => none
  | n + 1, v1, v2 => (if (σ 0 46) ≤ v2 then some v1 else (if inb v2 6 then (if inb (σ 21 (v2.toNatClampNeg)) 6 then (od ((((10 : Int32) * v1) + (σ 20 ((σ 21 (v2.toNatClampNeg)).toNatClampNeg))) + (1 : Int32)) (fun x4 : Int32 => ((f_X9_digitsNow_b4 σ n) x4 (v2 + 1)))) else none) else none))

def f_X9_digitsNow  (σ : Mem) : Option Int32 := (f_X9_digitsNow_b4 σ FU (0 : Int32) (0 : Int32))

def f_X9_day_b187  (s115 : Mem → Int32 → Int32 → Int32 → Option (Int32 × Mem)) (σ : Mem) (v1 : Int32) (v2 : Int32) (v3 : Int32) (v4 : Int32) (v5 : Int32) (v6 : Int32) : Option (Int32 × Mem) := (s115 σ v4 v5 (v6 + 1))

def f_X9_day_b185  (s115 : Mem → Int32 → Int32 → Int32 → Option (Int32 × Mem)) (σ : Mem) (v1 : Int32) (v2 : Int32) (v3 : Int32) (v4 : Int32) (v6 : Int32) (k0 : Int32) : Option (Int32 × Mem) := (f_X9_day_b187 s115 σ v1 v2 v3 v4 k0 v6)

def f_X9_day_b169  (s115 : Mem → Int32 → Int32 → Int32 → Option (Int32 × Mem)) (σ : Mem) (v1 : Int32) (v2 : Int32) (v3 : Int32) (v5 : Int32) (v6 : Int32) (v8 : Int32) (k0 : Int32) : Option (Int32 × Mem) := (if v8 = 0 then (f_X9_day_b185 s115 σ v1 v2 v3 k0 v6 v5) else (ob (f_X9_digitsNow σ) (fun r23 => (f_X9_day_b185 s115 σ v1 v2 v3 k0 v6 r23))))

def f_X9_day_b155  (s115 : Mem → Int32 → Int32 → Int32 → Option (Int32 × Mem)) (σ : Mem) (v1 : Int32) (v2 : Int32) (v3 : Int32) (v4 : Int32) (v5 : Int32) (v6 : Int32) (v7 : Int32) (k0 : Int32) : Option (Int32 × Mem) := (if k0 = 0 then (f_X9_day_b169 s115 σ v1 v2 v3 v5 v6 k0 v4) else (f_X9_day_b169 s115 σ v1 v2 v3 v5 v6 k0 v7))

def f_X9_day_b150  (s115 : Mem → Int32 → Int32 → Int32 → Option (Int32 × Mem)) (σ : Mem) (v1 : Int32) (v2 : Int32) (v3 : Int32) (v4 : Int32) (v5 : Int32) (v6 : Int32) (v7 : Int32) : Option (Int32 × Mem) := (f_X9_day_b155 s115 σ v1 v2 v3 v4 v5 v6 v7 (1 : Int32))

def f_X9_day_b115   (v1 : Int32) (v2 : Int32) (v3 : Int32) : Nat → Mem → Int32 → Int32 → Int32 → Option (Int32 × Mem)
  | 0, _, _, _, _ => none
  | n + 1, σ, v4, v5, v6 => (if v3 ≤ v6 then (if v2 = 0 then some (v4, σ) else some (v5, σ)) else (ob2 (f_X9_tells σ v6) (fun r12 σ13 => (if r12 = 0 then (f_X9_day_b187 (f_X9_day_b115 v1 v2 v3 n) σ13 v1 v2 v3 v4 v5 v6) else (ob2 (f_X9_waits σ13 v1) (fun r16 σ17 => (if v4 = (-1 : Int32) then (f_X9_day_b150 (f_X9_day_b115 v1 v2 v3 n) σ17 v1 v2 v3 v4 v5 v6 r16) else (if v4 ≤ r16 then (f_X9_day_b155 (f_X9_day_b115 v1 v2 v3 n) σ17 v1 v2 v3 v4 v5 v6 r16 (0 : Int32)) else (f_X9_day_b150 (f_X9_day_b115 v1 v2 v3 n) σ17 v1 v2 v3 v4 v5 v6 r16)))))))))

def f_X9_day_b84   (v1 : Int32) (v2 : Int32) : Nat → Mem → Int32 → Int32 → Option (Int32 × Mem)
  | 0, _, _, _ => none
  | n + 1, σ, v3, v4 => (if (σ 0 46) ≤ v4 then (f_X9_day_b115 v1 v2 v3 FU σ (-1 : Int32) (0 : Int32) (0 : Int32)) else ((f_X9_day_b84 v1 v2 n) σ (v3 * (σ 0 46)) (v4 + 1)))

def f_X9_day_b75  (s31 : Mem → Int32 → Option (Int32 × Mem)) (σ : Mem) (v1 : Int32) (v2 : Int32) (v3 : Int32) (v4 : Int32) : Option (Int32 × Mem) := (s31 σ (v4 + 1))

def f_X9_day_b31   (v1 : Int32) (v2 : Int32) (v3 : Int32) : Nat → Mem → Int32 → Option (Int32 × Mem)
  | 0, _, _ => none
  | n + 1, σ, v4 => (if (σ 0 0) ≤ v4 then (f_X9_day_b84 v1 v2 FU σ v3 (0 : Int32)) else (if inb (((4 : Int32) * v4) + (3 : Int32)) 24 then (if (σ 3 ((((4 : Int32) * v4) + (3 : Int32)).toNatClampNeg)) = 0 then (if inb (σ 0 46) 6 then (od (ms (ms σ 20 ((σ 0 46).toNatClampNeg) v4) 0 46 (((ms σ 20 ((σ 0 46).toNatClampNeg) v4) 0 46) + (1 : Int32))) (fun σ7 : Mem => (f_X9_day_b75 (f_X9_day_b31 v1 v2 v3 n) σ7 v1 v2 v3 v4))) else none) else (f_X9_day_b75 (f_X9_day_b31 v1 v2 v3 n) σ v1 v2 v3 v4)) else none))

def f_X9_day  (σ : Mem) (v1 : Int32) (v2 : Int32) : Option (Int32 × Mem) := (if (f_X9_in v1 (0 : Int32) (1 : Int32)) = 0 then some ((-2 : Int32), σ) else (if (f_X9_in v2 (0 : Int32) (1 : Int32)) = 0 then some ((-2 : Int32), σ) else (f_X9_day_b31 v1 v2 (1 : Int32) FU (ms σ 0 46 (0 : Int32)) (0 : Int32))))

def f_X9_toldWrong  (σ : Mem) (v1 : Int32) (v2 : Int32) : Option Int32 := (if (f_X9_in v1 (0 : Int32) (3 : Int32)) = 0 then some (-2 : Int32) else (if inb v1 4 then (if (σ 9 (v1.toNatClampNeg)) = (-1 : Int32) then some (-11 : Int32) else (if (f_X9_isMan σ v2) = 0 then some (-5 : Int32) else some (0 : Int32))) else none))

def f_X9_unlike_b69  (s9 : Mem → Int32 → Int32 → Option (Int32 × Mem)) (σ : Mem) (v1 : Int32) (v2 : Int32) (v4 : Int32) (k0 : Int32) : Option (Int32 × Mem) := (s9 σ k0 (v4 + 1))

def f_X9_unlike_b9   (v1 : Int32) (v2 : Int32) : Nat → Mem → Int32 → Int32 → Option (Int32 × Mem)
  | 0, _, _, _ => none
  | n + 1, σ, v3, v4 => (if inb v1 4 then (if (σ 10 (v1.toNatClampNeg)) ≤ v4 then (ob (f_X9_laysBack σ) (fun σ6 => some (v3, σ6))) else (if v3 = (-1 : Int32) then (ob (f_X9_grow σ v2) (fun σ11 => (if inb (((40 : Int32) * v1) + v4) 160 then (if inb ((4 : Int32) * v2) 24 then (if ((ms σ11 0 6 ((σ11 0 6) + (1 : Int32))) 11 ((((40 : Int32) * v1) + v4).toNatClampNeg)) = ((ms σ11 0 6 ((σ11 0 6) + (1 : Int32))) 3 (((4 : Int32) * v2).toNatClampNeg)) then (f_X9_unlike_b69 (f_X9_unlike_b9 v1 v2 n) (ms σ11 0 6 ((σ11 0 6) + (1 : Int32))) v1 v2 v4 (-1 : Int32)) else (f_X9_unlike_b69 (f_X9_unlike_b9 v1 v2 n) (ms σ11 0 6 ((σ11 0 6) + (1 : Int32))) v1 v2 v4 v4)) else none) else none))) else (ob (f_X9_laysBack σ) (fun σ9 => some (v3, σ9))))) else none)

def f_X9_unlike  (σ : Mem) (v1 : Int32) (v2 : Int32) : Option (Int32 × Mem) := (ob (f_X9_keeps σ) (fun σ2 => (f_X9_unlike_b9 v1 v2 FU σ2 (-1 : Int32) (0 : Int32))))

def f_X9_judge  (σ : Mem) (v1 : Int32) (v2 : Int32) : Option (Int32 × Mem) := (ob (f_X9_toldWrong σ v1 v2) (fun r2 => (if r2 = 0 then (ob2 (f_X9_unlike σ v1 v2) (fun r5 σ6 => some (r5, σ6))) else some (r2, σ))))

def f_X9_kinds_b155  (s62 : Mem → Int32 → Int32 → Option (Int32 × Mem)) (σ : Mem) (v1 : Int32) (v2 : Int32) (v3 : Int32) (v5 : Int32) (v6 : Int32) (v7 : Int32) (v9 : Int32) (k0 : Int32) (k1 : Int32) : Option (Int32 × Mem) := (s62 σ (k0 ||| k1) (v9 + 1))

def f_X9_kinds_b134  (s62 : Mem → Int32 → Int32 → Option (Int32 × Mem)) (σ : Mem) (v1 : Int32) (v2 : Int32) (v3 : Int32) (v5 : Int32) (v6 : Int32) (v7 : Int32) (v8 : Int32) (v9 : Int32) (k1 : Int32) (k2 : Int32) : Option (Int32 × Mem) := (if inb k1 24 then (ob2 (f_X9_unlike (ms σ 3 (k1.toNatClampNeg) k2) v1 v2) (fun r23 σ24 => (if r23 = (-1 : Int32) then (f_X9_kinds_b155 s62 σ24 v1 v2 v3 v5 v6 v7 v9 v8 ((1 : Int32) <<< (v9 &&& 31))) else (f_X9_kinds_b155 s62 σ24 v1 v2 v3 v5 v6 v7 v9 v8 (0 : Int32))))) else none)

def f_X9_kinds_b112  (s62 : Mem → Int32 → Int32 → Option (Int32 × Mem)) (σ : Mem) (v1 : Int32) (v2 : Int32) (v3 : Int32) (v5 : Int32) (v6 : Int32) (v7 : Int32) (v8 : Int32) (v9 : Int32) (k1 : Int32) (k2 : Int32) : Option (Int32 × Mem) := (if inb k1 6 then (if v3 = (2 : Int32) then (f_X9_kinds_b134 s62 (ms σ 2 (k1.toNatClampNeg) k2) v1 v2 v3 v5 v6 v7 v8 v9 (((4 : Int32) * v2) + (1 : Int32)) v9) else (f_X9_kinds_b134 s62 (ms σ 2 (k1.toNatClampNeg) k2) v1 v2 v3 v5 v6 v7 v8 v9 (((4 : Int32) * v2) + (1 : Int32)) v7)) else none)

def f_X9_kinds_b94  (s62 : Mem → Int32 → Int32 → Option (Int32 × Mem)) (σ : Mem) (v1 : Int32) (v2 : Int32) (v3 : Int32) (v5 : Int32) (v6 : Int32) (v7 : Int32) (v8 : Int32) (v9 : Int32) (k1 : Int32) (k2 : Int32) : Option (Int32 × Mem) := (if inb k1 6 then (if v3 = (1 : Int32) then (f_X9_kinds_b112 s62 (ms σ 1 (k1.toNatClampNeg) k2) v1 v2 v3 v5 v6 v7 v8 v9 v2 v9) else (f_X9_kinds_b112 s62 (ms σ 1 (k1.toNatClampNeg) k2) v1 v2 v3 v5 v6 v7 v8 v9 v2 v6)) else none)

def f_X9_kinds_b75  (s62 : Mem → Int32 → Int32 → Option (Int32 × Mem)) (σ : Mem) (v1 : Int32) (v2 : Int32) (v3 : Int32) (v5 : Int32) (v6 : Int32) (v7 : Int32) (v8 : Int32) (v9 : Int32) (k0 : Int32) (k1 : Int32) : Option (Int32 × Mem) := (if k1 ≤ k0 then (if inb v2 6 then (if inb v2 6 then (od (ms (ms σ 1 (v2.toNatClampNeg) v5) 2 (v2.toNatClampNeg) v6) (fun σ13 : Mem => (if inb (((4 : Int32) * v2) + (1 : Int32)) 24 then (od (ms σ13 3 ((((4 : Int32) * v2) + (1 : Int32)).toNatClampNeg) v7) (fun σ15 : Mem => some (v8, σ15))) else none))) else none) else none) else (if v3 = 0 then (f_X9_kinds_b94 s62 σ v1 v2 v3 v5 v6 v7 v8 v9 v2 v9) else (f_X9_kinds_b94 s62 σ v1 v2 v3 v5 v6 v7 v8 v9 v2 v5)))

def f_X9_kinds_b62   (v1 : Int32) (v2 : Int32) (v3 : Int32) (v5 : Int32) (v6 : Int32) (v7 : Int32) : Nat → Mem → Int32 → Int32 → Option (Int32 × Mem)
  | 0, _, _, _ => none
  | n + 1, σ, v8, v9 => (if v3 = 0 then (f_X9_kinds_b75 (f_X9_kinds_b62 v1 v2 v3 v5 v6 v7 n) σ v1 v2 v3 v5 v6 v7 v8 v9 v9 (6 : Int32)) else (f_X9_kinds_b75 (f_X9_kinds_b62 v1 v2 v3 v5 v6 v7 n) σ v1 v2 v3 v5 v6 v7 v8 v9 v9 (10 : Int32)))

def f_X9_kinds  (σ : Mem) (v1 : Int32) (v2 : Int32) (v3 : Int32) : Option (Int32 × Mem) := (ob (f_X9_toldWrong σ v1 v2) (fun r2 => (if r2 = 0 then (if (f_X9_in v3 (0 : Int32) (2 : Int32)) = 0 then some ((-7 : Int32), σ) else (if inb v2 6 then (if inb v2 6 then (if inb (((4 : Int32) * v2) + (1 : Int32)) 24 then (od (σ 3 ((((4 : Int32) * v2) + (1 : Int32)).toNatClampNeg)) (fun x8 : Int32 => (f_X9_kinds_b62 v1 v2 v3 (σ 1 (v2.toNatClampNeg)) (σ 2 (v2.toNatClampNeg)) x8 FU σ (0 : Int32) (0 : Int32)))) else none) else none) else none)) else some (r2, σ))))

def f_X9_since_b57  (s24 : Mem → Int64 → Int32 → Option (Int64 × Mem)) (σ : Mem) (v1 : Int32) (v2 : Int32) (v3 : Int32) (v6 : Int32) (k0 : Int64) (k1 : Int64) : Option (Int64 × Mem) := (s24 σ (k0 ||| k1) (v6 + 1))

def f_X9_since_b24   (v1 : Int32) (v2 : Int32) (v3 : Int32) : Nat → Mem → Int64 → Int32 → Option (Int64 × Mem)
  | 0, _, _, _ => none
  | n + 1, σ, v4, v6 => (if (52 : Int32) ≤ v6 then some (v4, (ms σ 0 6 v3)) else (ob2 (f_X9_unlike (ms σ 0 6 v6) v1 v2) (fun r6 σ7 => (if r6 = (-1 : Int32) then (f_X9_since_b57 (f_X9_since_b24 v1 v2 v3 n) σ7 v1 v2 v3 v6 v4 ((1 : Int64) <<< (v6.toInt64 &&& 63))) else (f_X9_since_b57 (f_X9_since_b24 v1 v2 v3 n) σ7 v1 v2 v3 v6 v4 (0 : Int64))))))

def f_X9_since  (σ : Mem) (v1 : Int32) (v2 : Int32) : Option (Int64 × Mem) := (ob (f_X9_toldWrong σ v1 v2) (fun r2 => (if r2 = 0 then (f_X9_since_b24 v1 v2 (σ 0 6) FU σ (0 : Int64) (0 : Int32)) else some ((-4611686018427387904 : Int64), σ))))

def f_X9_laws_b60  (s25 : Mem → Int32 → Int32 → Option (Int32 × Mem)) (σ : Mem) (v1 : Int32) (v2 : Int32) (v4 : Int32) (v6 : Int32) (k0 : Int32) (k1 : Int32) : Option (Int32 × Mem) := (s25 σ (k0 ||| k1) (v6 + 1))

def f_X9_laws_b25   (v1 : Int32) (v2 : Int32) (v4 : Int32) : Nat → Mem → Int32 → Int32 → Option (Int32 × Mem)
  | 0, _, _, _ => none
  | n + 1, σ, v5, v6 => (if (σ 0 11) ≤ v6 then some (v5, (ms σ 0 12 v4)) else (ob2 (f_X9_unlike (ms σ 0 12 v6) v1 v2) (fun r6 σ7 => (if r6 = (-1 : Int32) then (f_X9_laws_b60 (f_X9_laws_b25 v1 v2 v4 n) σ7 v1 v2 v4 v6 v5 ((1 : Int32) <<< (v6 &&& 31))) else (f_X9_laws_b60 (f_X9_laws_b25 v1 v2 v4 n) σ7 v1 v2 v4 v6 v5 (0 : Int32))))))

def f_X9_laws  (σ : Mem) (v1 : Int32) (v2 : Int32) : Option (Int32 × Mem) := (ob (f_X9_toldWrong σ v1 v2) (fun r2 => (if r2 = 0 then (f_X9_laws_b25 v1 v2 (σ 0 12) FU σ (0 : Int32) (0 : Int32)) else some (r2, σ))))

def f_X9_whose_b55  (s29 : Mem → Int32 → Int32 → Option (Int32 × Mem)) (σ : Mem) (v1 : Int32) (v3 : Int32) (k0 : Int32) (k1 : Int32) : Option (Int32 × Mem) := (s29 σ (k0 ||| k1) (v3 + 1))

def f_X9_whose_b29   (v1 : Int32) : Nat → Mem → Int32 → Int32 → Option (Int32 × Mem)
  | 0, _, _, _ => none
  | n + 1, σ, v2, v3 => (if (σ 0 0) ≤ v3 then some (v2, σ) else (ob2 (f_X9_unlike σ v1 v3) (fun r6 σ7 => (if r6 = (-1 : Int32) then (f_X9_whose_b55 (f_X9_whose_b29 v1 n) σ7 v1 v3 v2 ((1 : Int32) <<< (v3 &&& 31))) else (f_X9_whose_b55 (f_X9_whose_b29 v1 n) σ7 v1 v3 v2 (0 : Int32))))))

def f_X9_whose  (σ : Mem) (v1 : Int32) : Option (Int32 × Mem) := (if (f_X9_in v1 (0 : Int32) (3 : Int32)) = 0 then some ((-2 : Int32), σ) else (if inb v1 4 then (if (σ 9 (v1.toNatClampNeg)) = (-1 : Int32) then some ((-11 : Int32), σ) else (f_X9_whose_b29 v1 FU σ (0 : Int32) (0 : Int32))) else none))

def f_X9_film_b108  (s57 : Mem → Int32 → Option (Int32 × Mem)) (σ : Mem) (v1 : Int32) (v2 : Int32) (v3 : Int32) (v4 : Int32) (k1 : Int32) (k2 : Int32) : Option (Int32 × Mem) := (if inb k1 160 then (s57 (ms σ 11 (k1.toNatClampNeg) k2) (v4 + 1)) else none)

def f_X9_film_b57   (v1 : Int32) (v2 : Int32) (v3 : Int32) : Nat → Mem → Int32 → Option (Int32 × Mem)
  | 0, _, _ => none
  | n + 1, σ, v4 => (if (40 : Int32) ≤ v4 then (ob (f_X9_laysBack σ) (fun σ11 => some (v3, σ11))) else (ob (f_X9_grow σ v2) (fun σ13 => (if v3 ≤ v4 then (f_X9_film_b108 (f_X9_film_b57 v1 v2 v3 n) (ms σ13 0 6 ((σ13 0 6) + (1 : Int32))) v1 v2 v3 v4 (((40 : Int32) * v1) + v4) (0 : Int32)) else (if inb ((4 : Int32) * v2) 24 then (f_X9_film_b108 (f_X9_film_b57 v1 v2 v3 n) (ms σ13 0 6 ((σ13 0 6) + (1 : Int32))) v1 v2 v3 v4 (((40 : Int32) * v1) + v4) ((ms σ13 0 6 ((σ13 0 6) + (1 : Int32))) 3 (((4 : Int32) * v2).toNatClampNeg))) else none)))))

def f_X9_film  (σ : Mem) (v1 : Int32) (v2 : Int32) (v3 : Int32) : Option (Int32 × Mem) := (if (f_X9_in v1 (0 : Int32) (3 : Int32)) = 0 then some ((-2 : Int32), σ) else (if (f_X9_isMan σ v2) = 0 then some ((-5 : Int32), σ) else (if (f_X9_in v3 (0 : Int32) (40 : Int32)) = 0 then some ((-7 : Int32), σ) else (if inb v1 4 then (if inb v1 4 then (od (ms (ms σ 9 (v1.toNatClampNeg) (1 : Int32)) 10 (v1.toNatClampNeg) v3) (fun σ6 : Mem => (ob (f_X9_keeps σ6) (fun σ8 => (f_X9_film_b57 v1 v2 v3 FU σ8 (0 : Int32)))))) else none) else none))))

def f_X9_goesByLots_b21  (s12 : Mem → Int64 → Int32 → Option Mem) (v2 : Int32) (v5 : Int32) : Nat → Mem → Int64 → Int32 → Option Mem
  | 0, _, _, _ => none
  | n + 1, σ, v3, v6 => (if (σ 0 0) ≤ v6 then (ob (f_X9_weekOf σ v5) (fun σ8 => (s12 σ8 v3 (v5 + 1)))) else (od (lrm (v3 * (48271 : Int64)) (2147483647 : Int64)) (fun x9 : Int64 => (if inb (((4 : Int32) * v6) + (1 : Int32)) 24 then (od (ms σ 3 ((((4 : Int32) * v6) + (1 : Int32)).toNatClampNeg) ((lrm x9 (10 : Int64)).toInt32)) (fun σ11 : Mem => ((f_X9_goesByLots_b21 s12 v2 v5 n) σ11 x9 (v6 + 1)))) else none))))

def f_X9_goesByLots_b12   (v2 : Int32) : Nat → Mem → Int64 → Int32 → Option Mem
  | 0, _, _, _ => none
  | n + 1, σ, v3, v5 => (if v2 ≤ v5 then (ob (f_X9_laysBack σ) (fun σ5 => some σ5)) else (f_X9_goesByLots_b21 (f_X9_goesByLots_b12 v2 n) v2 v5 FU σ v3 (0 : Int32)))

def f_X9_goesByLots  (σ : Mem) (v1 : Int32) (v2 : Int32) : Option Mem := (ob (f_X9_keeps σ) (fun σ2 => (f_X9_goesByLots_b12 v2 FU σ2 ((v1.toInt64) + (1 : Int64)) (0 : Int32))))

def f_X9_drawn  (σ : Mem) (v1 : Int32) (v2 : Int32) (v3 : Int32) : Option (Int32 × Mem) := (if (f_X9_in v1 (0 : Int32) (99999 : Int32)) = 0 then some ((-2 : Int32), σ) else (if (f_X9_in v2 (0 : Int32) (60 : Int32)) = 0 then some ((-2 : Int32), σ) else (if (f_X9_in v3 (0 : Int32) (2 : Int32)) = 0 then some ((-2 : Int32), σ) else (ob (f_X9_goesByLots σ v1 v2) (fun σ5 => (if v3 = 0 then some ((σ5 0 34), σ5) else (if v3 = (1 : Int32) then some ((σ5 0 37), σ5) else some ((σ5 0 38), σ5))))))))

def f_X9_lowest_b16   (v0 : Int64) (v2 : Int64) (v4 : Int32) : Nat → Int64 → Int64 → Option Int64
  | 0, _, _ => none
  | n + 1, v5, v7 => (if (lg_cmp v7 (0 : Int64)) = 0 then (if v4 = 0 then (if v5 ≠ 0 then some (v0 / v5) else none) else (if v5 ≠ 0 then some (v2 / v5) else none)) else (if v7 ≠ 0 then ((f_X9_lowest_b16 v0 v2 v4 n) v7 (lrm v5 v7)) else none))

def f_X9_lowest  (v0 : Int64) (v2 : Int64) (v4 : Int32) : Option Int64 := (if (lg_cmp v0 (0 : Int64)) = 0 then some (v4.toInt64) else (f_X9_lowest_b16 v0 v2 v4 FU v0 v2))

def f_X9_odds_b80  (s51 : Mem → Int64 → Int32 → Option (Int64 × Mem)) (σ : Mem) (v1 : Int32) (v2 : Int32) (v3 : Int32) (v4 : Int32) (v7 : Int32) (k0 : Int64) (k1 : Int64) : Option (Int64 × Mem) := (s51 σ (k0 + k1) (v7 + 1))

def f_X9_odds_b51   (v1 : Int32) (v2 : Int32) (v3 : Int32) (v4 : Int32) : Nat → Mem → Int64 → Int32 → Option (Int64 × Mem)
  | 0, _, _, _ => none
  | n + 1, σ, v5, v7 => (if v2 ≤ v7 then (ob (f_X9_lowest v5 (v2.toInt64) v4) (fun r7 => some (r7, σ))) else (ob (f_X9_goesByLots σ (v1 + v7) v3) (fun σ9 => (if (σ9 0 34) = 0 then (f_X9_odds_b80 (f_X9_odds_b51 v1 v2 v3 v4 n) σ9 v1 v2 v3 v4 v7 v5 (1 : Int64)) else (f_X9_odds_b80 (f_X9_odds_b51 v1 v2 v3 v4 n) σ9 v1 v2 v3 v4 v7 v5 (0 : Int64))))))

def f_X9_odds  (σ : Mem) (v1 : Int32) (v2 : Int32) (v3 : Int32) (v4 : Int32) : Option (Int64 × Mem) := (if (f_X9_in v1 (0 : Int32) (99999 : Int32)) = 0 then some ((-4611686018427387904 : Int64), σ) else (if (f_X9_in v2 (1 : Int32) (20 : Int32)) = 0 then some ((-4611686018427387904 : Int64), σ) else (if (f_X9_in v3 (0 : Int32) (60 : Int32)) = 0 then some ((-4611686018427387904 : Int64), σ) else (if (f_X9_in v4 (0 : Int32) (1 : Int32)) = 0 then some ((-4611686018427387904 : Int64), σ) else (f_X9_odds_b51 v1 v2 v3 v4 FU σ (0 : Int64) (0 : Int32))))))

def f_X9_image_b65   : Nat → Mem → Int32 → Option (Int32 × Mem)
  | 0, _, _ => none
  | n + 1, σ, v1 => (if (48 : Int32) ≤ v1 then some ((σ 0 0), σ) else (if inb v1 48 then (if inb ((24 : Int32) + v1) 72 then (od (ms σ 8 (((24 : Int32) + v1).toNatClampNeg) (σ 4 (v1.toNatClampNeg))) (fun σ10 : Mem => ((f_X9_image_b65  n) σ10 (v1 + 1)))) else none) else none))

def f_X9_image_b39   : Nat → Mem → Int32 → Option (Int32 × Mem)
  | 0, _, _ => none
  | n + 1, σ, v1 => (if (24 : Int32) ≤ v1 then (f_X9_image_b65 FU σ (0 : Int32)) else (if inb v1 24 then (if inb v1 72 then (od (ms σ 8 (v1.toNatClampNeg) (σ 3 (v1.toNatClampNeg))) (fun σ6 : Mem => ((f_X9_image_b39  n) σ6 (v1 + 1)))) else none) else none))

def f_X9_image  (σ : Mem) : Option (Int32 × Mem) := (od (ms (ms σ 0 13 (1 : Int32)) 0 14 ((ms σ 0 13 (1 : Int32)) 0 0)) (fun σ1 : Mem => (od (ms (ms σ1 0 15 (σ1 0 4)) 0 16 ((ms σ1 0 15 (σ1 0 4)) 0 6)) (fun σ2 : Mem => (f_X9_image_b39 FU (ms σ2 0 17 (σ2 0 12)) (0 : Int32))))))

def f_X9_back_b70   : Nat → Mem → Int32 → Option (Int32 × Mem)
  | 0, _, _ => none
  | n + 1, σ, v1 => (if (48 : Int32) ≤ v1 then some ((σ 0 0), σ) else (if inb ((24 : Int32) + v1) 72 then (if inb v1 48 then (od (ms σ 4 (v1.toNatClampNeg) (σ 8 (((24 : Int32) + v1).toNatClampNeg))) (fun σ11 : Mem => ((f_X9_back_b70  n) σ11 (v1 + 1)))) else none) else none))

def f_X9_back_b44   : Nat → Mem → Int32 → Option (Int32 × Mem)
  | 0, _, _ => none
  | n + 1, σ, v1 => (if (24 : Int32) ≤ v1 then (f_X9_back_b70 FU σ (0 : Int32)) else (if inb v1 72 then (if inb v1 24 then (od (ms σ 3 (v1.toNatClampNeg) (σ 8 (v1.toNatClampNeg))) (fun σ7 : Mem => ((f_X9_back_b44  n) σ7 (v1 + 1)))) else none) else none))

def f_X9_back  (σ : Mem) : Option (Int32 × Mem) := (if (σ 0 13) = 0 then some ((-3 : Int32), σ) else (od (ms (ms σ 0 0 (σ 0 14)) 0 4 ((ms σ 0 0 (σ 0 14)) 0 15)) (fun σ2 : Mem => (od (ms (ms σ2 0 6 (σ2 0 16)) 0 12 ((ms σ2 0 6 (σ2 0 16)) 0 17)) (fun σ3 : Mem => (f_X9_back_b44 FU σ3 (0 : Int32)))))))

def f_X9_sheet_b70   (v1 : Int32) : Nat → Mem → Int32 → Option (Int32 × Mem)
  | 0, _, _ => none
  | n + 1, σ, v4 => (if (40 : Int32) ≤ v4 then some ((1 : Int32), σ) else (if inb (((40 : Int32) * v1) + v4) 160 then (od (ms σ 11 ((((40 : Int32) * v1) + v4).toNatClampNeg) (0 : Int32)) (fun σ12 : Mem => ((f_X9_sheet_b70 v1 n) σ12 (v4 + 1)))) else none))

def f_X9_sheet_b66   (σ : Mem) (v1 : Int32) (k1 : Int32) (k2 : Int32) : Option (Int32 × Mem) := (if inb k1 4 then (f_X9_sheet_b70 v1 FU (ms σ 10 (k1.toNatClampNeg) k2) (0 : Int32)) else none)

def f_X9_sheet_b44   (σ : Mem) (v1 : Int32) (v2 : Int32) (v3 : Int32) : Option (Int32 × Mem) := (if inb v1 4 then (if v2 = (-1 : Int32) then (f_X9_sheet_b66 (ms σ 9 (v1.toNatClampNeg) v2) v1 v1 (0 : Int32)) else (f_X9_sheet_b66 (ms σ 9 (v1.toNatClampNeg) v2) v1 v1 v3)) else none)

def f_X9_sheet_b32   (σ : Mem) (v1 : Int32) (v2 : Int32) (v3 : Int32) : Option (Int32 × Mem) := (if v2 = (-1 : Int32) then (f_X9_sheet_b44 σ v1 v2 v3) else (if 0 ≤ v3 then (f_X9_sheet_b44 σ v1 v2 v3) else some ((-14 : Int32), σ)))

def f_X9_sheet  (σ : Mem) (v1 : Int32) (v2 : Int32) (v3 : Int32) : Option (Int32 × Mem) := (if (f_X9_in v1 (0 : Int32) (3 : Int32)) = 0 then some ((-2 : Int32), σ) else (if (f_X9_in v2 (-1 : Int32) (2 : Int32)) = 0 then some ((-2 : Int32), σ) else (if v2 = (-1 : Int32) then (f_X9_sheet_b32 σ v1 v2 v3) else (if v3 ≤ (40 : Int32) then (f_X9_sheet_b32 σ v1 v2 v3) else some ((-2 : Int32), σ)))))

def f_X9_cell  (σ : Mem) (v1 : Int32) (v2 : Int32) (v3 : Int32) : Option (Int32 × Mem) := (if (f_X9_in v1 (0 : Int32) (3 : Int32)) = 0 then some ((-2 : Int32), σ) else (if inb v1 4 then (if (σ 9 (v1.toNatClampNeg)) = (-1 : Int32) then some ((-11 : Int32), σ) else (if inb v1 4 then (if (f_X9_in v2 (0 : Int32) ((σ 10 (v1.toNatClampNeg)) - (1 : Int32))) = 0 then some ((-12 : Int32), σ) else (if inb v1 4 then (if (σ 9 (v1.toNatClampNeg)) = 0 then (if inb (((40 : Int32) * v1) + v2) 160 then (od (ms σ 11 ((((40 : Int32) * v1) + v2).toNatClampNeg) (v3.toInt8.toInt32)) (fun σ15 : Mem => some ((1 : Int32), σ15))) else none) else (if inb v1 4 then (if (σ 9 (v1.toNatClampNeg)) = (1 : Int32) then (if inb (((40 : Int32) * v1) + v2) 160 then (od (ms σ 11 ((((40 : Int32) * v1) + v2).toNatClampNeg) (v3.toInt16.toInt32)) (fun σ13 : Mem => some ((1 : Int32), σ13))) else none) else (if inb (((40 : Int32) * v1) + v2) 160 then (od (ms σ 11 ((((40 : Int32) * v1) + v2).toNatClampNeg) v3) (fun σ11 : Mem => some ((1 : Int32), σ11))) else none)) else none)) else none)) else none)) else none))

def f_X9_copy_b173  (s147 : Mem → Int32 → Option (Int32 × Mem)) (σ : Mem) (v5 : Int32) (v6 : Int32) (v7 : Int32) (v8 : Int32) (k0 : Int32) : Option (Int32 × Mem) := (if inb (v6 + k0) 160 then (if inb (v7 + k0) 160 then (od (ms σ 11 ((v7 + k0).toNatClampNeg) (σ 11 ((v6 + k0).toNatClampNeg))) (fun σ25 : Mem => (s147 σ25 (v8 + 1)))) else none) else none)

def f_X9_copy_b147   (v5 : Int32) (v6 : Int32) (v7 : Int32) : Nat → Mem → Int32 → Option (Int32 × Mem)
  | 0, _, _ => none
  | n + 1, σ, v8 => (if v5 ≤ v8 then some (v5, σ) else (if v7 ≤ v6 then (f_X9_copy_b173 (f_X9_copy_b147 v5 v6 v7 n) σ v5 v6 v7 v8 v8) else (f_X9_copy_b173 (f_X9_copy_b147 v5 v6 v7 n) σ v5 v6 v7 v8 ((v5 - (1 : Int32)) - v8))))

def f_X9_copy  (σ : Mem) (v1 : Int32) (v2 : Int32) (v3 : Int32) (v4 : Int32) (v5 : Int32) : Option (Int32 × Mem) := (if (f_X9_in v1 (0 : Int32) (3 : Int32)) = 0 then some ((-2 : Int32), σ) else (if (f_X9_in v3 (0 : Int32) (3 : Int32)) = 0 then some ((-2 : Int32), σ) else (if inb v1 4 then (if (σ 9 (v1.toNatClampNeg)) = (-1 : Int32) then some ((-11 : Int32), σ) else (if inb v3 4 then (if (σ 9 (v3.toNatClampNeg)) = (-1 : Int32) then some ((-11 : Int32), σ) else (if inb v1 4 then (if inb v3 4 then (if (σ 9 (v1.toNatClampNeg)) = (σ 9 (v3.toNatClampNeg)) then (if v5 < 0 then some ((-12 : Int32), σ) else (if v2 < 0 then some ((-12 : Int32), σ) else (if v4 < 0 then some ((-12 : Int32), σ) else (if inb v1 4 then (if (σ 10 (v1.toNatClampNeg)) < v2 then some ((-12 : Int32), σ) else (if inb v3 4 then (if (σ 10 (v3.toNatClampNeg)) < v4 then some ((-12 : Int32), σ) else (if inb v1 4 then (if ((σ 10 (v1.toNatClampNeg)) - v2) < v5 then some ((-12 : Int32), σ) else (if inb v3 4 then (if v5 ≤ ((σ 10 (v3.toNatClampNeg)) - v4) then (f_X9_copy_b147 v5 (((40 : Int32) * v1) + v2) (((40 : Int32) * v3) + v4) FU σ (0 : Int32)) else some ((-12 : Int32), σ)) else none)) else none)) else none)) else none)))) else some ((-13 : Int32), σ)) else none) else none)) else none)) else none)))

def f_X9_menBy_b153  (s64 : Mem → Int32 → Int32 → Option (Int32 × Mem)) (σ : Mem) (v1 : Int32) (v3 : Int32) (v4 : Int32) (v6 : Int32) (k0 : Int32) (k1 : Int32) : Option (Int32 × Mem) := (s64 σ (k0 + k1) (v6 + 1))

def f_X9_menBy_b64   (v1 : Int32) (v3 : Int32) (v4 : Int32) : Nat → Mem → Int32 → Int32 → Option (Int32 × Mem)
  | 0, _, _, _ => none
  | n + 1, σ, v5, v6 => (if v4 ≤ v6 then some (v5, σ) else (if v3 < 0 then some ((-12 : Int32), σ) else (if (v3 + ((3 : Int32) * v6)) < v3 then some ((-12 : Int32), σ) else (if inb v1 4 then (if (v3 + ((3 : Int32) * v6)) ≤ ((σ 10 (v1.toNatClampNeg)) - (3 : Int32)) then (od (((40 : Int32) * v1) + (v3 + ((3 : Int32) * v6))) (fun x13 : Int32 => (if inb x13 160 then (if inb (x13 + (1 : Int32)) 160 then (if inb (x13 + (2 : Int32)) 160 then (ob2 (f_X9_man σ (σ 11 (x13.toNatClampNeg)) (σ 11 ((x13 + (1 : Int32)).toNatClampNeg)) (σ 11 ((x13 + (2 : Int32)).toNatClampNeg))) (fun r18 σ19 => (if r18 < 0 then (f_X9_menBy_b153 (f_X9_menBy_b64 v1 v3 v4 n) σ19 v1 v3 v4 v6 v5 (0 : Int32)) else (f_X9_menBy_b153 (f_X9_menBy_b64 v1 v3 v4 n) σ19 v1 v3 v4 v6 v5 (1 : Int32))))) else none) else none) else none))) else some ((-12 : Int32), σ)) else none))))

def f_X9_menBy  (σ : Mem) (v1 : Int32) (v2 : Int32) (v3 : Int32) (v4 : Int32) : Option (Int32 × Mem) := (if (f_X9_in v1 (0 : Int32) (3 : Int32)) = 0 then some ((-2 : Int32), σ) else (if (f_X9_in v2 (0 : Int32) (2 : Int32)) = 0 then some ((-2 : Int32), σ) else (if (f_X9_in v4 (0 : Int32) (6 : Int32)) = 0 then some ((-2 : Int32), σ) else (if inb v1 4 then (if (σ 9 (v1.toNatClampNeg)) = (-1 : Int32) then some ((-11 : Int32), σ) else (if inb v1 4 then (if (σ 9 (v1.toNatClampNeg)) = v2 then (f_X9_menBy_b64 v1 v3 v4 FU σ (0 : Int32) (0 : Int32)) else some ((-13 : Int32), σ)) else none)) else none))))

def f_X9_isUnder_b19   (v0 : Int32) (v1 : Int32) : Int32 := (if v1 = (2 : Int32) then (if v0 = (4 : Int32) then (1 : Int32) else (0 : Int32)) else (0 : Int32))

def f_X9_isUnder  (v0 : Int32) (v1 : Int32) : Int32 := (if v1 = 0 then (1 : Int32) else (if v0 = v1 then (1 : Int32) else (if v1 = (1 : Int32) then (if v0 = (3 : Int32) then (1 : Int32) else (f_X9_isUnder_b19 v0 v1)) else (f_X9_isUnder_b19 v0 v1))))

def f_X9_taken  (σ : Mem) (v1 : Int32) (v2 : Int32) : Option Int32 := (if (f_X9_in v2 (0 : Int32) (6 : Int32)) = 0 then some (-2 : Int32) else (if (f_X9_in v1 (0 : Int32) (13 : Int32)) = 0 then some (-12 : Int32) else (if v1 < (6 : Int32) then (if v1 < (σ 0 0) then (if (6 : Int32) ≤ v2 then some (-13 : Int32) else (if inb v1 6 then (if (f_X9_isUnder (σ 1 (v1.toNatClampNeg)) v2) = 0 then some (-13 : Int32) else some v1) else none)) else some (-11 : Int32)) else (if (v1 - (6 : Int32)) < (σ 0 4) then (if v2 = (6 : Int32) then (if inb (((6 : Int32) * (v1 - (6 : Int32))) + (2 : Int32)) 48 then some (σ 4 ((((6 : Int32) * (v1 - (6 : Int32))) + (2 : Int32)).toNatClampNeg)) else none) else some (-13 : Int32)) else some (-11 : Int32)))))

