def fX10_past_165 (x4 : Int32) (y0 : Int32) (y1 : Nat) (h : Hp) : Option (Int32 × Hp) :=
  if hK h y1 = some (10, 0) then (bd2 (fX10_bad y1 y0 (4 : Int32) h) fun z1 h1 => if z1 = 0 then (some (x4, h1)) else (some ((0 : Int32), h1))) else none
def fX10_past_154 (x0 : Nat) (x4 : Int32) (x5 : Int32) (h : Hp) : Option (Int32 × Hp) :=
  if x5 = 0 then (fX10_past_165 x4 (1 : Int32) x0 h) else (fX10_past_165 x4 (0 : Int32) x0 h)
def fX10_past_148 (k96 : Nat → Int32 → Int32 → Int32 → Int32 → Int32 → Hp → Option (Int32 × Hp)) (x0 : Nat) (x2 : Int32) (x3 : Int32) (x4 : Int32) (x5 : Int32) (x6 : Int32) (h : Hp) : Option (Int32 × Hp) :=
  k96 x0 x2 x3 x4 x5 (x6 + (1 : Int32)) h
def fX10_past_96_body (k96 : Nat → Int32 → Int32 → Int32 → Int32 → Int32 → Hp → Option (Int32 × Hp)) (x0 : Nat) (x2 : Int32) (x3 : Int32) (x4 : Int32) (x5 : Int32) (x6 : Int32) (h : Hp) : Option (Int32 × Hp) :=
  bd (gI h 10 47 x0) fun z1 => if z1 ≤ x6 then (fX10_past_154 x0 x4 x5 h) else (bd (gR h 10 43 x0) fun z3 => onR z3 (none) fun a4 => bd (ldI h 11 a4 x6) fun z5 => if x3 < z5 then (fX10_past_154 x0 x4 x5 h) else (bd (gR h 10 44 x0) fun z7 => onR z7 (none) fun a8 => bd (ldI h 11 a8 x6) fun z9 => if z9 = x2 then (bd (gR h 10 46 x0) fun z11 => onR z11 (none) fun a12 => bd (ldI h 13 a12 x6) fun z13 => bd (gR h 10 45 x0) fun z14 => onR z14 (none) fun a15 => bd (ldI h 11 a15 x6) fun z16 => fX10_past_148 k96 x0 x2 x3 z16 z13 x6 h) else (fX10_past_148 k96 x0 x2 x3 x4 x5 x6 h)))
def fX10_past_96 : Nat → Nat → Int32 → Int32 → Int32 → Int32 → Int32 → Hp → Option (Int32 × Hp)
  | 0 => fun _ _ _ _ _ _ _ => none
  | n + 1 => fX10_past_96_body (fX10_past_96 n)
def fX10_past_78 (x0 : Nat) (x2 : Int32) (x3 : Int32) (y0 : Int32) (y1 : Nat) (h : Hp) : Option (Int32 × Hp) :=
  if hK h y1 = some (10, 0) then (bd2 (fX10_bad y1 y0 (3 : Int32) h) fun z1 h1 => if z1 = 0 then (fX10_past_96 LF x0 x2 x3 (0 : Int32) (0 : Int32) (0 : Int32) h1) else (some ((0 : Int32), h1))) else none
def fX10_past_73 (x0 : Nat) (x2 : Int32) (x3 : Int32) (y0 : Nat) (h : Hp) : Option (Int32 × Hp) :=
  fX10_past_78 x0 x2 x3 (1 : Int32) y0 h
def fX10_past_42 (x0 : Nat) (x1 : Int32) (x2 : Int32) (x3 : Int32) (y0 : Int32) (y1 : Nat) (h : Hp) : Option (Int32 × Hp) :=
  if hK h y1 = some (10, 0) then (bd2 (fX10_bad y1 y0 (2 : Int32) h) fun z1 h1 => if z1 = 0 then (if hK h1 x0 = some (10, 0) then (bd2 (fX10_work x0 x1 h1) fun _ h3 => bd (gI h3 10 42 x0) fun z4 => if x3 < z4 then (fX10_past_73 x0 x2 x3 x0 h3) else (bd (gI h3 10 40 x0) fun z6 => if x3 ≤ z6 then (fX10_past_78 x0 x2 x3 (0 : Int32) x0 h3) else (fX10_past_73 x0 x2 x3 x0 h3))) else none) else (some ((0 : Int32), h1))) else none
def fX10_past_20 (x0 : Nat) (x1 : Int32) (x2 : Int32) (x3 : Int32) (y0 : Int32) (y1 : Nat) (h : Hp) : Option (Int32 × Hp) :=
  if hK h y1 = some (10, 0) then (bd2 (fX10_bad y1 y0 (1 : Int32) h) fun z1 h1 => if z1 = 0 then (bd (gR h1 10 1 x0) fun z3 => onR z3 (none) fun a4 => bd (ldI h1 13 a4 x1) fun z5 => if z5 = 0 then (fX10_past_42 x0 x1 x2 x3 (1 : Int32) x0 h1) else (fX10_past_42 x0 x1 x2 x3 (0 : Int32) x0 h1)) else (some ((0 : Int32), h1))) else none
def fX10_past_15 (x0 : Nat) (x1 : Int32) (x2 : Int32) (x3 : Int32) (y0 : Nat) (h : Hp) : Option (Int32 × Hp) :=
  fX10_past_20 x0 x1 x2 x3 (1 : Int32) y0 h
def fX10_past (x0 : Nat) (x1 : Int32) (x2 : Int32) (x3 : Int32) (h : Hp) : Option (Int32 × Hp) :=
  bd2 (fX10_isNode x1 h) fun z1 h1 => if z1 = 0 then (fX10_past_15 x0 x1 x2 x3 x0 h1) else (bd2 (fX10_isKey x2 h1) fun z3 h3 => if z3 = 0 then (fX10_past_15 x0 x1 x2 x3 x0 h3) else (fX10_past_20 x0 x1 x2 x3 (0 : Int32) x0 h3))
def fX10_power_37 (x0 : Nat) (x1 : Int32) (x2 : Int32) (y0 : Int32) (y1 : Nat) (h : Hp) : Option (Unit × Hp) :=
  if hK h y1 = some (10, 0) then (bd2 (fX10_bad y1 y0 (2 : Int32) h) fun z1 h1 => if z1 = 0 then (bd (gR h1 10 10 x0) fun z3 => onR z3 (none) fun a4 => bd (stI h1 11 a4 x1 x2) fun h5 => some ((), h5)) else (some ((), h1))) else none
def fX10_power_32 (x0 : Nat) (x1 : Int32) (x2 : Int32) (y0 : Nat) (h : Hp) : Option (Unit × Hp) :=
  fX10_power_37 x0 x1 x2 (1 : Int32) y0 h
def fX10_power_13 (x0 : Nat) (x1 : Int32) (x2 : Int32) (y0 : Int32) (y1 : Nat) (h : Hp) : Option (Unit × Hp) :=
  if hK h y1 = some (10, 0) then (bd2 (fX10_bad y1 y0 (1 : Int32) h) fun z1 h1 => if z1 = 0 then (if x2 < (-1 : Int32) then (fX10_power_32 x0 x1 x2 x0 h1) else (if x2 ≤ (100 : Int32) then (fX10_power_37 x0 x1 x2 (0 : Int32) x0 h1) else (fX10_power_32 x0 x1 x2 x0 h1))) else (some ((), h1))) else none
def fX10_power (x0 : Nat) (x1 : Int32) (x2 : Int32) (h : Hp) : Option (Unit × Hp) :=
  bd2 (fX10_isNode x1 h) fun z1 h1 => if z1 = 0 then (fX10_power_13 x0 x1 x2 (1 : Int32) x0 h1) else (fX10_power_13 x0 x1 x2 (0 : Int32) x0 h1)
def fX10_propose_81 (x0 : Nat) (x1 : Int32) (x2 : Int32) (x3 : Int32) (x4 : Int32) (y0 : Int32) (y1 : Nat) (h : Hp) : Option (Int32 × Hp) :=
  if hK h y1 = some (10, 0) then (bd2 (fX10_bad y1 y0 (3 : Int32) h) fun z1 h1 => if z1 = 0 then (bd (gI h1 10 28 x0) fun z3 => bd (gI h1 10 29 x0) fun z4 => bd (gI h1 10 30 x0) fun z5 => bd (gI h1 10 31 x0) fun z6 => if hK h1 x0 = some (10, 0) then (bd2 (fX10_adds x0 x1 x2 x3 x4 z3 z4 z5 z6 h1) fun z7 h7 => if z7 = 0 then (some ((0 : Int32), h7)) else (bd (gR h7 10 5 x0) fun z9 => onR z9 (none) fun a10 => bd (ldI h7 11 a10 x1) fun z11 => some (z11, h7))) else none) else (some ((0 : Int32), h1))) else none
def fX10_propose_76 (x0 : Nat) (x1 : Int32) (x2 : Int32) (x3 : Int32) (x4 : Int32) (y0 : Nat) (h : Hp) : Option (Int32 × Hp) :=
  fX10_propose_81 x0 x1 x2 x3 x4 (1 : Int32) y0 h
def fX10_propose_37 (x0 : Nat) (x1 : Int32) (x2 : Int32) (x3 : Int32) (x4 : Int32) (y0 : Int32) (y1 : Nat) (h : Hp) : Option (Int32 × Hp) :=
  if hK h y1 = some (10, 0) then (bd2 (fX10_bad y1 y0 (2 : Int32) h) fun z1 h1 => if z1 = 0 then (bd (gR h1 10 1 x0) fun z3 => onR z3 (none) fun a4 => bd (ldI h1 13 a4 x1) fun z5 => if z5 = 0 then (fX10_propose_76 x0 x1 x2 x3 x4 x0 h1) else (bd (gR h1 10 8 x0) fun z7 => onR z7 (none) fun a8 => bd (ldI h1 11 a8 x1) fun z9 => if z9 = (2 : Int32) then (bd (gR h1 10 5 x0) fun z11 => onR z11 (none) fun a12 => bd (ldI h1 11 a12 x1) fun z13 => if z13 = (1200 : Int32) then (fX10_propose_76 x0 x1 x2 x3 x4 x0 h1) else (fX10_propose_81 x0 x1 x2 x3 x4 (0 : Int32) x0 h1)) else (fX10_propose_76 x0 x1 x2 x3 x4 x0 h1))) else (some ((0 : Int32), h1))) else none
def fX10_propose_13 (x0 : Nat) (x1 : Int32) (x2 : Int32) (x3 : Int32) (x4 : Int32) (y0 : Int32) (y1 : Nat) (h : Hp) : Option (Int32 × Hp) :=
  if hK h y1 = some (10, 0) then (bd2 (fX10_bad y1 y0 (1 : Int32) h) fun z1 h1 => if z1 = 0 then (if hK h1 x0 = some (10, 0) then (bd2 (fX10_isRight x0 x2 x3 x4 h1) fun z3 h3 => if z3 = 0 then (fX10_propose_37 x0 x1 x2 x3 x4 (1 : Int32) x0 h3) else (fX10_propose_37 x0 x1 x2 x3 x4 (0 : Int32) x0 h3)) else none) else (some ((0 : Int32), h1))) else none
def fX10_propose (x0 : Nat) (x1 : Int32) (x2 : Int32) (x3 : Int32) (x4 : Int32) (h : Hp) : Option (Int32 × Hp) :=
  bd2 (fX10_isNode x1 h) fun z1 h1 => if z1 = 0 then (fX10_propose_13 x0 x1 x2 x3 x4 (1 : Int32) x0 h1) else (fX10_propose_13 x0 x1 x2 x3 x4 (0 : Int32) x0 h1)
def fX10_result_55 (x0 : Nat) (x1 : Int32) (x2 : Int32) (y0 : Int32) (y1 : Nat) (h : Hp) : Option (Int32 × Hp) :=
  if hK h y1 = some (10, 0) then (bd2 (fX10_bad y1 y0 (2 : Int32) h) fun z1 h1 => if z1 = 0 then (if hK h1 x0 = some (10, 0) then (bd2 (fX10_work x0 x1 h1) fun _ h3 => bd (gR h3 10 48 x0) fun z4 => onR z4 (none) fun a5 => bd (ldI h3 11 a5 x2) fun z6 => some (z6, h3)) else none) else (some ((0 : Int32), h1))) else none
def fX10_result_50 (x0 : Nat) (x1 : Int32) (x2 : Int32) (y0 : Nat) (h : Hp) : Option (Int32 × Hp) :=
  fX10_result_55 x0 x1 x2 (1 : Int32) y0 h
def fX10_result_13 (x0 : Nat) (x1 : Int32) (x2 : Int32) (y0 : Int32) (y1 : Nat) (h : Hp) : Option (Int32 × Hp) :=
  if hK h y1 = some (10, 0) then (bd2 (fX10_bad y1 y0 (1 : Int32) h) fun z1 h1 => if z1 = 0 then (bd (gR h1 10 1 x0) fun z3 => onR z3 (none) fun a4 => bd (ldI h1 13 a4 x1) fun z5 => if z5 = 0 then (fX10_result_50 x0 x1 x2 x0 h1) else (bd (gR h1 10 7 x0) fun z7 => onR z7 (none) fun a8 => bd (ldI h1 11 a8 x1) fun z9 => if x2 ≤ z9 then (fX10_result_50 x0 x1 x2 x0 h1) else (bd (gR h1 10 6 x0) fun z11 => onR z11 (none) fun a12 => bd (ldI h1 11 a12 x1) fun z13 => if x2 ≤ z13 then (fX10_result_55 x0 x1 x2 (0 : Int32) x0 h1) else (fX10_result_50 x0 x1 x2 x0 h1)))) else (some ((0 : Int32), h1))) else none
def fX10_result (x0 : Nat) (x1 : Int32) (x2 : Int32) (h : Hp) : Option (Int32 × Hp) :=
  bd2 (fX10_isNode x1 h) fun z1 h1 => if z1 = 0 then (fX10_result_13 x0 x1 x2 (1 : Int32) x0 h1) else (fX10_result_13 x0 x1 x2 (0 : Int32) x0 h1)
def fX10_shrink_50 (x0 : Nat) (x1 : Int32) (y0 : Int32) (y1 : Nat) (h : Hp) : Option (Int32 × Hp) :=
  if hK h y1 = some (10, 0) then (bd2 (fX10_bad y1 y0 (2 : Int32) h) fun z1 h1 => if z1 = 0 then (if hK h1 x0 = some (10, 0) then (bd2 (fX10_record x0 x1 h1) fun z3 h3 => if z3 = 0 then (bd (gR h3 10 4 x0) fun z5 => onR z5 (none) fun a6 => bd (ldI h3 11 a6 x1) fun z7 => some (z7, h3)) else (bd (gR h3 10 4 x0) fun z8 => onR z8 (none) fun a9 => bd (gR h3 10 6 x0) fun z10 => onR z10 (none) fun a11 => bd (ldI h3 11 a11 x1) fun z12 => bd (stI h3 11 a9 x1 z12) fun h13 => bd (gR h13 10 4 x0) fun z14 => onR z14 (none) fun a15 => bd (ldI h13 11 a15 x1) fun z16 => some (z16, h13))) else none) else (some ((0 : Int32), h1))) else none
def fX10_shrink_45 (x0 : Nat) (x1 : Int32) (y0 : Nat) (h : Hp) : Option (Int32 × Hp) :=
  fX10_shrink_50 x0 x1 (1 : Int32) y0 h
def fX10_shrink_13 (x0 : Nat) (x1 : Int32) (y0 : Int32) (y1 : Nat) (h : Hp) : Option (Int32 × Hp) :=
  if hK h y1 = some (10, 0) then (bd2 (fX10_bad y1 y0 (1 : Int32) h) fun z1 h1 => if z1 = 0 then (bd (gR h1 10 1 x0) fun z3 => onR z3 (none) fun a4 => bd (ldI h1 13 a4 x1) fun z5 => if z5 = 0 then (fX10_shrink_45 x0 x1 x0 h1) else (bd (gR h1 10 6 x0) fun z7 => onR z7 (none) fun a8 => bd (ldI h1 11 a8 x1) fun z9 => bd (gR h1 10 4 x0) fun z10 => onR z10 (none) fun a11 => bd (ldI h1 11 a11 x1) fun z12 => if z9 = z12 then (fX10_shrink_45 x0 x1 x0 h1) else (fX10_shrink_50 x0 x1 (0 : Int32) x0 h1))) else (some ((0 : Int32), h1))) else none
def fX10_shrink (x0 : Nat) (x1 : Int32) (h : Hp) : Option (Int32 × Hp) :=
  bd2 (fX10_isNode x1 h) fun z1 h1 => if z1 = 0 then (fX10_shrink_13 x0 x1 (1 : Int32) x0 h1) else (fX10_shrink_13 x0 x1 (0 : Int32) x0 h1)
def fX10_start_13 (x0 : Nat) (x1 : Int32) (y0 : Int32) (y1 : Nat) (h : Hp) : Option (Int32 × Hp) :=
  if hK h y1 = some (10, 0) then (bd2 (fX10_bad y1 y0 (1 : Int32) h) fun z1 h1 => if z1 = 0 then (bd (gR h1 10 1 x0) fun z3 => onR z3 (none) fun a4 => bd (ldI h1 13 a4 x1) fun z5 => if hK h1 x0 = some (10, 0) then (bd2 (fX10_bad x0 z5 (2 : Int32) h1) fun z6 h6 => if z6 = 0 then (bd (gR h6 10 1 x0) fun z8 => onR z8 (none) fun a9 => bd (stZ h6 13 a9 x1 (1 : Int32)) fun h10 => bd (gR h10 10 6 x0) fun z11 => onR z11 (none) fun a12 => bd (gR h10 10 4 x0) fun z13 => onR z13 (none) fun a14 => bd (ldI h10 11 a14 x1) fun z15 => bd (stI h10 11 a12 x1 z15) fun h16 => bd (gR h16 10 7 x0) fun z17 => onR z17 (none) fun a18 => bd (gR h16 10 4 x0) fun z19 => onR z19 (none) fun a20 => bd (ldI h16 11 a20 x1) fun z21 => bd (stI h16 11 a18 x1 z21) fun h22 => bd (gR h22 10 9 x0) fun z23 => onR z23 (none) fun a24 => bd (stI h22 11 a24 x1 (0 : Int32)) fun h25 => bd (gR h25 10 5 x0) fun z26 => onR z26 (none) fun a27 => bd (ldI h25 11 a27 x1) fun z28 => some (z28, h25)) else (some ((0 : Int32), h6))) else none) else (some ((0 : Int32), h1))) else none
def fX10_start (x0 : Nat) (x1 : Int32) (h : Hp) : Option (Int32 × Hp) :=
  bd2 (fX10_isNode x1 h) fun z1 h1 => if z1 = 0 then (fX10_start_13 x0 x1 (1 : Int32) x0 h1) else (fX10_start_13 x0 x1 (0 : Int32) x0 h1)
abbrev rX10_past : Room := { frames := 5, cells := 0, slots := 0, locals := 122 }
abbrev pX10_past_165 (D : va_G) (cy : Nat → ClassId) (s0 : Nat) (p : Program) (l : Launch) (e : Env) (s : State) (m : MethodId) (args : Array Value) (below : List Frame) (meth : Method) (c : Code) (r : Int32 × Hp) (x4 : Int32) (y0 : Int32) (y1 : Nat) (h : Hp) : Prop := ∀ (H : Heap) (locs : List Loc) (ls : Array Slot) (cells slots : Nat), cells + (0) ≤ 0 → slots + (0) ≤ 0 → WS D cy s0 s h H locs → lv_has ls 7 [(4, .int x4)] → W p l e rX10_past s m args below meth c H locs cells slots (MQ below (QQ D cy s0 (some (.int r.1)) r.2) args s 0 0 (fun q => s0 ≤ q)) (F0 m 165 ls [.int y0, .ref y1])
abbrev pX10_past_154 (D : va_G) (cy : Nat → ClassId) (s0 : Nat) (p : Program) (l : Launch) (e : Env) (s : State) (m : MethodId) (args : Array Value) (below : List Frame) (meth : Method) (c : Code) (r : Int32 × Hp) (x0 : Nat) (x4 : Int32) (x5 : Int32) (h : Hp) : Prop := ∀ (H : Heap) (locs : List Loc) (ls : Array Slot) (cells slots : Nat), cells + (0) ≤ 0 → slots + (0) ≤ 0 → WS D cy s0 s h H locs → lv_has ls 7 [(0, .ref x0), (4, .int x4), (5, .int x5)] → W p l e rX10_past s m args below meth c H locs cells slots (MQ below (QQ D cy s0 (some (.int r.1)) r.2) args s 0 0 (fun q => s0 ≤ q)) (F0 m 154 ls [])
abbrev pX10_past_148 (D : va_G) (cy : Nat → ClassId) (s0 : Nat) (p : Program) (l : Launch) (e : Env) (s : State) (m : MethodId) (args : Array Value) (below : List Frame) (meth : Method) (c : Code) (r : Int32 × Hp) (x0 : Nat) (x2 : Int32) (x3 : Int32) (x4 : Int32) (x5 : Int32) (x6 : Int32) (h : Hp) : Prop := ∀ (H : Heap) (locs : List Loc) (ls : Array Slot) (cells slots : Nat), cells + (0) ≤ 0 → slots + (0) ≤ 0 → WS D cy s0 s h H locs → lv_has ls 7 [(0, .ref x0), (2, .int x2), (3, .int x3), (4, .int x4), (5, .int x5), (6, .int x6)] → W p l e rX10_past s m args below meth c H locs cells slots (MQ below (QQ D cy s0 (some (.int r.1)) r.2) args s 0 0 (fun q => s0 ≤ q)) (F0 m 148 ls [])
abbrev pX10_past_96 (D : va_G) (cy : Nat → ClassId) (s0 : Nat) (p : Program) (l : Launch) (e : Env) (s : State) (m : MethodId) (args : Array Value) (below : List Frame) (meth : Method) (c : Code) (r : Int32 × Hp) (x0 : Nat) (x2 : Int32) (x3 : Int32) (x4 : Int32) (x5 : Int32) (x6 : Int32) (h : Hp) : Prop := ∀ (H : Heap) (locs : List Loc) (ls : Array Slot) (cells slots : Nat), cells + (0) ≤ 0 → slots + (0) ≤ 0 → WS D cy s0 s h H locs → lv_has ls 7 [(0, .ref x0), (2, .int x2), (3, .int x3), (4, .int x4), (5, .int x5), (6, .int x6)] → W p l e rX10_past s m args below meth c H locs cells slots (MQ below (QQ D cy s0 (some (.int r.1)) r.2) args s 0 0 (fun q => s0 ≤ q)) (F0 m 96 ls [])
abbrev pX10_past_78 (D : va_G) (cy : Nat → ClassId) (s0 : Nat) (p : Program) (l : Launch) (e : Env) (s : State) (m : MethodId) (args : Array Value) (below : List Frame) (meth : Method) (c : Code) (r : Int32 × Hp) (x0 : Nat) (x2 : Int32) (x3 : Int32) (y0 : Int32) (y1 : Nat) (h : Hp) : Prop := ∀ (H : Heap) (locs : List Loc) (ls : Array Slot) (cells slots : Nat), cells + (0) ≤ 0 → slots + (0) ≤ 0 → WS D cy s0 s h H locs → lv_has ls 7 [(0, .ref x0), (2, .int x2), (3, .int x3)] → W p l e rX10_past s m args below meth c H locs cells slots (MQ below (QQ D cy s0 (some (.int r.1)) r.2) args s 0 0 (fun q => s0 ≤ q)) (F0 m 78 ls [.int y0, .ref y1])
abbrev pX10_past_73 (D : va_G) (cy : Nat → ClassId) (s0 : Nat) (p : Program) (l : Launch) (e : Env) (s : State) (m : MethodId) (args : Array Value) (below : List Frame) (meth : Method) (c : Code) (r : Int32 × Hp) (x0 : Nat) (x2 : Int32) (x3 : Int32) (y0 : Nat) (h : Hp) : Prop := ∀ (H : Heap) (locs : List Loc) (ls : Array Slot) (cells slots : Nat), cells + (0) ≤ 0 → slots + (0) ≤ 0 → WS D cy s0 s h H locs → lv_has ls 7 [(0, .ref x0), (2, .int x2), (3, .int x3)] → W p l e rX10_past s m args below meth c H locs cells slots (MQ below (QQ D cy s0 (some (.int r.1)) r.2) args s 0 0 (fun q => s0 ≤ q)) (F0 m 73 ls [.ref y0])
abbrev pX10_past_42 (D : va_G) (cy : Nat → ClassId) (s0 : Nat) (p : Program) (l : Launch) (e : Env) (s : State) (m : MethodId) (args : Array Value) (below : List Frame) (meth : Method) (c : Code) (r : Int32 × Hp) (x0 : Nat) (x1 : Int32) (x2 : Int32) (x3 : Int32) (y0 : Int32) (y1 : Nat) (h : Hp) : Prop := ∀ (H : Heap) (locs : List Loc) (ls : Array Slot) (cells slots : Nat), cells + (0) ≤ 0 → slots + (0) ≤ 0 → WS D cy s0 s h H locs → lv_has ls 7 [(0, .ref x0), (1, .int x1), (2, .int x2), (3, .int x3)] → W p l e rX10_past s m args below meth c H locs cells slots (MQ below (QQ D cy s0 (some (.int r.1)) r.2) args s 0 0 (fun q => s0 ≤ q)) (F0 m 42 ls [.int y0, .ref y1])
abbrev pX10_past_20 (D : va_G) (cy : Nat → ClassId) (s0 : Nat) (p : Program) (l : Launch) (e : Env) (s : State) (m : MethodId) (args : Array Value) (below : List Frame) (meth : Method) (c : Code) (r : Int32 × Hp) (x0 : Nat) (x1 : Int32) (x2 : Int32) (x3 : Int32) (y0 : Int32) (y1 : Nat) (h : Hp) : Prop := ∀ (H : Heap) (locs : List Loc) (ls : Array Slot) (cells slots : Nat), cells + (0) ≤ 0 → slots + (0) ≤ 0 → WS D cy s0 s h H locs → lv_has ls 7 [(0, .ref x0), (1, .int x1), (2, .int x2), (3, .int x3)] → W p l e rX10_past s m args below meth c H locs cells slots (MQ below (QQ D cy s0 (some (.int r.1)) r.2) args s 0 0 (fun q => s0 ≤ q)) (F0 m 20 ls [.int y0, .ref y1])
abbrev pX10_past_15 (D : va_G) (cy : Nat → ClassId) (s0 : Nat) (p : Program) (l : Launch) (e : Env) (s : State) (m : MethodId) (args : Array Value) (below : List Frame) (meth : Method) (c : Code) (r : Int32 × Hp) (x0 : Nat) (x1 : Int32) (x2 : Int32) (x3 : Int32) (y0 : Nat) (h : Hp) : Prop := ∀ (H : Heap) (locs : List Loc) (ls : Array Slot) (cells slots : Nat), cells + (0) ≤ 0 → slots + (0) ≤ 0 → WS D cy s0 s h H locs → lv_has ls 7 [(0, .ref x0), (1, .int x1), (2, .int x2), (3, .int x3)] → W p l e rX10_past s m args below meth c H locs cells slots (MQ below (QQ D cy s0 (some (.int r.1)) r.2) args s 0 0 (fun q => s0 ≤ q)) (F0 m 15 ls [.ref y0])
abbrev pX10_past (D : va_G) (cy : Nat → ClassId) (s0 : Nat) (p : Program) (l : Launch) (e : Env) (s : State) (m : MethodId) (args : Array Value) (below : List Frame) (meth : Method) (c : Code) (r : Int32 × Hp) (x0 : Nat) (x1 : Int32) (x2 : Int32) (x3 : Int32) (h : Hp) : Prop := ∀ (H : Heap) (locs : List Loc) (ls : Array Slot) (cells slots : Nat), cells + (0) ≤ 0 → slots + (0) ≤ 0 → WS D cy s0 s h H locs → lv_has ls 7 [(0, .ref x0), (1, .int x1), (2, .int x2), (3, .int x3)] → W p l e rX10_past s m args below meth c H locs cells slots (MQ below (QQ D cy s0 (some (.int r.1)) r.2) args s 0 0 (fun q => s0 ≤ q)) (F0 m 0 ls [])
set_option maxRecDepth 100000 in
set_option maxHeartbeats 4000000 in
theorem bX10_past_165 {D : va_G} {cy : Nat → ClassId} {s0 : Nat} {p : Program} {l : Launch} {e : Env} {s : State} {m : MethodId} {args : Array Value} {below : List Frame} {meth : Method} {c : Code} (C : CX D cy s0 p s m args meth c cX10_past 7 RX10 (some .int)) (hn : meth.name = "past") : ∀ (x4 : Int32) (y0 : Int32) (y1 : Nat) (h : Hp) (r : Int32 × Hp), fX10_past_165 x4 y0 y1 h = some r → pX10_past_165 D cy s0 p l e s m args below meth c r x4 y0 y1 h := by
  intro x4 y0 y1 h ⟨rv, rh⟩ hf H locs ls cells slots hc hs hw hl
  unfold fX10_past_165 at hf
  have hx := C.1
  have hb := C.2.1
  refine lv_iconst (v := (4 : Int32)) hx hb dX10_past_165 (by decide) ?_
  obtain ⟨kb1, hf⟩ := ig hf
  obtain ⟨z1, h1, e1, hf⟩ := ob2 hf
  refine r_callV C hw (mX10_bad e1) kXX10_bad ck10 rfl kb1 w1132 w1134 v35 ⟨Nat.le_of_ble_eq_true rfl, Nat.le_of_ble_eq_true rfl⟩ rfl hl.1 (rest := []) rfl (Nat.le_of_ble_eq_true rfl) dX10_past_166 (mc := 0) (ms := 0) rfl rfl ⟨by show _ + 0 ≤ 0; omega, by show _ + 0 ≤ 0; omega⟩ (fun H locs hw => ?_)
  refine W.eq (g2 := F0 m 169 ls [.int z1]) rfl ?_
  refine lv_if_eq (tgt := 176) hx hb dX10_past_169 (by decide) (fun c2 => ?_) (fun c2 => ?_)
  · have hf := ip hf c2
    refine lv_iload hx hb dX10_past_176 (lv_at hl 0 rfl) ?_
    obtain ⟨rfl, rfl⟩ := sp hf
    exact r_iret C hw rfl rfl (by omega) (by omega) dX10_past_178
  · have hf := ie hf c2
    refine lv_iconst (v := (0 : Int32)) hx hb dX10_past_172 (by decide) ?_
    refine lv_goto (tgt := 178) hx hb dX10_past_173 (by decide) ?_
    obtain ⟨rfl, rfl⟩ := sp hf
    exact r_iret C hw rfl rfl (by omega) (by omega) dX10_past_178
set_option maxRecDepth 100000 in
set_option maxHeartbeats 4000000 in
theorem bX10_past_154 {D : va_G} {cy : Nat → ClassId} {s0 : Nat} {p : Program} {l : Launch} {e : Env} {s : State} {m : MethodId} {args : Array Value} {below : List Frame} {meth : Method} {c : Code} (C : CX D cy s0 p s m args meth c cX10_past 7 RX10 (some .int)) (hn : meth.name = "past") : ∀ (x0 : Nat) (x4 : Int32) (x5 : Int32) (h : Hp) (r : Int32 × Hp), fX10_past_154 x0 x4 x5 h = some r → pX10_past_154 D cy s0 p l e s m args below meth c r x0 x4 x5 h := by
  intro x0 x4 x5 h ⟨rv, rh⟩ hf H locs ls cells slots hc hs hw hl
  unfold fX10_past_154 at hf
  have hx := C.1
  have hb := C.2.1
  refine lv_aload_n hx hb dX10_past_154 rfl (lv_at hl 0 rfl) ?_
  refine lv_iload hx hb dX10_past_155 (lv_at hl 2 rfl) ?_
  refine lv_if_ne (tgt := 164) hx hb dX10_past_157 (by decide) (fun c1 => ?_) (fun c1 => ?_)
  · have hf := ie hf c1
    refine lv_iconst (v := (0 : Int32)) hx hb dX10_past_164 (by decide) ?_
    exact bX10_past_165 C hn _ _ _ _ _ hf _ _ _ _ _ (by omega) (by omega) hw (lv_sub hl [1] rfl)
  · have hf := ip hf c1
    refine lv_iconst (v := (1 : Int32)) hx hb dX10_past_160 (by decide) ?_
    refine lv_goto (tgt := 165) hx hb dX10_past_161 (by decide) ?_
    exact bX10_past_165 C hn _ _ _ _ _ hf _ _ _ _ _ (by omega) (by omega) hw (lv_sub hl [1] rfl)
set_option maxRecDepth 100000 in
set_option maxHeartbeats 4000000 in
theorem bX10_past_148 {D : va_G} {cy : Nat → ClassId} {s0 : Nat} {p : Program} {l : Launch} {e : Env} {s : State} {m : MethodId} {args : Array Value} {below : List Frame} {meth : Method} {c : Code} (C : CX D cy s0 p s m args meth c cX10_past 7 RX10 (some .int)) (hn : meth.name = "past") {k96 : Nat → Int32 → Int32 → Int32 → Int32 → Int32 → Hp → Option (Int32 × Hp)} (hk96 : ∀ (x0 : Nat) (x2 : Int32) (x3 : Int32) (x4 : Int32) (x5 : Int32) (x6 : Int32) (h : Hp) (r : Int32 × Hp), k96 x0 x2 x3 x4 x5 x6 h = some r → pX10_past_96 D cy s0 p l e s m args below meth c r x0 x2 x3 x4 x5 x6 h) : ∀ (x0 : Nat) (x2 : Int32) (x3 : Int32) (x4 : Int32) (x5 : Int32) (x6 : Int32) (h : Hp) (r : Int32 × Hp), fX10_past_148 k96 x0 x2 x3 x4 x5 x6 h = some r → pX10_past_148 D cy s0 p l e s m args below meth c r x0 x2 x3 x4 x5 x6 h := by
  intro x0 x2 x3 x4 x5 x6 h ⟨rv, rh⟩ hf H locs ls cells slots hc hs hw hl
  unfold fX10_past_148 at hf
  have hx := C.1
  have hb := C.2.1
  refine lv_iinc (v := (x6 + (1 : Int32))) (lv' := [(6, .int (x6 + (1 : Int32))), (0, .ref x0), (2, .int x2), (3, .int x3), (4, .int x4), (5, .int x5)]) hx hb dX10_past_148 hl (k := 5) rfl rfl (by decide) rfl (fun ls hl => ?_)
  refine lv_goto (tgt := 96) hx hb dX10_past_151 (by decide) ?_
  exact hk96 _ _ _ _ _ _ _ _ hf _ _ _ _ _ (by omega) (by omega) hw (lv_sub hl [1, 2, 3, 4, 5, 0] rfl)
set_option maxRecDepth 100000 in
set_option maxHeartbeats 4000000 in
theorem bX10_past_96_body {D : va_G} {cy : Nat → ClassId} {s0 : Nat} {p : Program} {l : Launch} {e : Env} {s : State} {m : MethodId} {args : Array Value} {below : List Frame} {meth : Method} {c : Code} (C : CX D cy s0 p s m args meth c cX10_past 7 RX10 (some .int)) (hn : meth.name = "past") {k96 : Nat → Int32 → Int32 → Int32 → Int32 → Int32 → Hp → Option (Int32 × Hp)} (hk96 : ∀ (x0 : Nat) (x2 : Int32) (x3 : Int32) (x4 : Int32) (x5 : Int32) (x6 : Int32) (h : Hp) (r : Int32 × Hp), k96 x0 x2 x3 x4 x5 x6 h = some r → pX10_past_96 D cy s0 p l e s m args below meth c r x0 x2 x3 x4 x5 x6 h) : ∀ (x0 : Nat) (x2 : Int32) (x3 : Int32) (x4 : Int32) (x5 : Int32) (x6 : Int32) (h : Hp) (r : Int32 × Hp), fX10_past_96_body k96 x0 x2 x3 x4 x5 x6 h = some r → pX10_past_96 D cy s0 p l e s m args below meth c r x0 x2 x3 x4 x5 x6 h := by
  intro x0 x2 x3 x4 x5 x6 h ⟨rv, rh⟩ hf H locs ls cells slots hc hs hw hl
  unfold fX10_past_96_body at hf
  have hx := C.1
  have hb := C.2.1
  refine lv_iload hx hb dX10_past_96 (lv_at hl 5 rfl) ?_
  refine lv_aload_n hx hb dX10_past_98 rfl (lv_at hl 0 rfl) ?_
  obtain ⟨z1, e1, hf⟩ := ob hf
  refine r_gI C hw e1 ck10 rfl (by decide) w1010 dX10_past_99 ?_
  refine lv_icmp_ge (tgt := 154) hx hb dX10_past_102 (by decide) (fun c2 => ?_) (fun c2 => ?_)
  · have hf := ip hf c2
    exact bX10_past_154 C hn _ _ _ _ _ hf _ _ _ _ _ (by omega) (by omega) hw (lv_sub hl [0, 3, 4] rfl)
  · have hf := ie hf c2
    refine lv_aload_n hx hb dX10_past_105 rfl (lv_at hl 0 rfl) ?_
    obtain ⟨z3, e3, hf⟩ := ob hf
    refine r_gR C hw e3 ck10 rfl (by decide) w1006 dX10_past_106 ?_
    cases z3 with
    | none =>
      have hf := on_n hf
      cases hf
    | some a4 =>
      have hf := on_s hf
      refine W.eq (g2 := F0 m 109 ls [.ref a4]) rfl ?_
      refine lv_iload hx hb dX10_past_109 (lv_at hl 5 rfl) ?_
      obtain ⟨z5, e5, hf⟩ := ob hf
      refine r_iald C hw e5 dX10_past_111 ?_
      refine lv_iload_n hx hb dX10_past_112 rfl (lv_at hl 2 rfl) ?_
      refine lv_icmp_gt (tgt := 154) hx hb dX10_past_113 (by decide) (fun c6 => ?_) (fun c6 => ?_)
      · have hf := ip hf c6
        exact bX10_past_154 C hn _ _ _ _ _ hf _ _ _ _ _ (by omega) (by omega) hw (lv_sub hl [0, 3, 4] rfl)
      · have hf := ie hf c6
        refine lv_aload_n hx hb dX10_past_116 rfl (lv_at hl 0 rfl) ?_
        obtain ⟨z7, e7, hf⟩ := ob hf
        refine r_gR C hw e7 ck10 rfl (by decide) w1007 dX10_past_117 ?_
        cases z7 with
        | none =>
          have hf := on_n hf
          cases hf
        | some a8 =>
          have hf := on_s hf
          refine W.eq (g2 := F0 m 120 ls [.ref a8]) rfl ?_
          refine lv_iload hx hb dX10_past_120 (lv_at hl 5 rfl) ?_
          obtain ⟨z9, e9, hf⟩ := ob hf
          refine r_iald C hw e9 dX10_past_122 ?_
          refine lv_iload_n hx hb dX10_past_123 rfl (lv_at hl 1 rfl) ?_
          refine lv_icmp_eq (tgt := 130) hx hb dX10_past_124 (by decide) (fun c10 => ?_) (fun c10 => ?_)
          · have hf := ip hf c10
            refine lv_aload_n hx hb dX10_past_130 rfl (lv_at hl 0 rfl) ?_
            obtain ⟨z11, e11, hf⟩ := ob hf
            refine r_gR C hw e11 ck10 rfl (by decide) w1009 dX10_past_131 ?_
            cases z11 with
            | none =>
              have hf := on_n hf
              cases hf
            | some a12 =>
              have hf := on_s hf
              refine W.eq (g2 := F0 m 134 ls [.ref a12]) rfl ?_
              refine lv_iload hx hb dX10_past_134 (lv_at hl 5 rfl) ?_
              obtain ⟨z13, e13, hf⟩ := ob hf
              refine r_zald C hw e13 dX10_past_136 ?_
              refine lv_istore (lv' := [(5, .int z13), (0, .ref x0), (2, .int x2), (3, .int x3), (4, .int x4), (6, .int x6)]) hx hb dX10_past_137 hl (by decide) rfl (fun ls hl => ?_)
              refine lv_aload_n hx hb dX10_past_139 rfl (lv_at hl 1 rfl) ?_
              obtain ⟨z14, e14, hf⟩ := ob hf
              refine r_gR C hw e14 ck10 rfl (by decide) w1008 dX10_past_140 ?_
              cases z14 with
              | none =>
                have hf := on_n hf
                cases hf
              | some a15 =>
                have hf := on_s hf
                refine W.eq (g2 := F0 m 143 ls [.ref a15]) rfl ?_
                refine lv_iload hx hb dX10_past_143 (lv_at hl 5 rfl) ?_
                obtain ⟨z16, e16, hf⟩ := ob hf
                refine r_iald C hw e16 dX10_past_145 ?_
                refine lv_istore (lv' := [(4, .int z16), (5, .int z13), (0, .ref x0), (2, .int x2), (3, .int x3), (6, .int x6)]) hx hb dX10_past_146 hl (by decide) rfl (fun ls hl => ?_)
                exact bX10_past_148 C hn hk96 _ _ _ _ _ _ _ _ hf _ _ _ _ _ (by omega) (by omega) hw (lv_sub hl [2, 3, 4, 0, 1, 5] rfl)
          · have hf := ie hf c10
            refine lv_goto (tgt := 148) hx hb dX10_past_127 (by decide) ?_
            exact bX10_past_148 C hn hk96 _ _ _ _ _ _ _ _ hf _ _ _ _ _ (by omega) (by omega) hw (lv_sub hl [0, 1, 2, 3, 4, 5] rfl)
set_option maxRecDepth 100000 in
set_option maxHeartbeats 4000000 in
theorem bX10_past_96 {D : va_G} {cy : Nat → ClassId} {s0 : Nat} {p : Program} {l : Launch} {e : Env} {s : State} {m : MethodId} {args : Array Value} {below : List Frame} {meth : Method} {c : Code} (C : CX D cy s0 p s m args meth c cX10_past 7 RX10 (some .int)) (hn : meth.name = "past") : ∀ (n : Nat) (x0 : Nat) (x2 : Int32) (x3 : Int32) (x4 : Int32) (x5 : Int32) (x6 : Int32) (h : Hp) (r : Int32 × Hp), fX10_past_96 n x0 x2 x3 x4 x5 x6 h = some r → pX10_past_96 D cy s0 p l e s m args below meth c r x0 x2 x3 x4 x5 x6 h := by
  intro n
  induction n with
  | zero => intro x0 x2 x3 x4 x5 x6 h r hf; exact absurd hf (fun q => by cases q)
  | succ n ih => exact bX10_past_96_body C hn ih
set_option maxRecDepth 100000 in
set_option maxHeartbeats 4000000 in
theorem bX10_past_78 {D : va_G} {cy : Nat → ClassId} {s0 : Nat} {p : Program} {l : Launch} {e : Env} {s : State} {m : MethodId} {args : Array Value} {below : List Frame} {meth : Method} {c : Code} (C : CX D cy s0 p s m args meth c cX10_past 7 RX10 (some .int)) (hn : meth.name = "past") : ∀ (x0 : Nat) (x2 : Int32) (x3 : Int32) (y0 : Int32) (y1 : Nat) (h : Hp) (r : Int32 × Hp), fX10_past_78 x0 x2 x3 y0 y1 h = some r → pX10_past_78 D cy s0 p l e s m args below meth c r x0 x2 x3 y0 y1 h := by
  intro x0 x2 x3 y0 y1 h ⟨rv, rh⟩ hf H locs ls cells slots hc hs hw hl
  unfold fX10_past_78 at hf
  have hx := C.1
  have hb := C.2.1
  refine lv_iconst (v := (3 : Int32)) hx hb dX10_past_78 (by decide) ?_
  obtain ⟨kb1, hf⟩ := ig hf
  obtain ⟨z1, h1, e1, hf⟩ := ob2 hf
  refine r_callV C hw (mX10_bad e1) kXX10_bad ck10 rfl kb1 w1132 w1134 v35 ⟨Nat.le_of_ble_eq_true rfl, Nat.le_of_ble_eq_true rfl⟩ rfl hl.1 (rest := []) rfl (Nat.le_of_ble_eq_true rfl) dX10_past_79 (mc := 0) (ms := 0) rfl rfl ⟨by show _ + 0 ≤ 0; omega, by show _ + 0 ≤ 0; omega⟩ (fun H locs hw => ?_)
  refine W.eq (g2 := F0 m 82 ls [.int z1]) rfl ?_
  refine lv_if_eq (tgt := 87) hx hb dX10_past_82 (by decide) (fun c2 => ?_) (fun c2 => ?_)
  · have hf := ip hf c2
    refine lv_iconst (v := (0 : Int32)) hx hb dX10_past_87 (by decide) ?_
    refine lv_istore (lv' := [(4, .int (0 : Int32)), (0, .ref x0), (2, .int x2), (3, .int x3)]) hx hb dX10_past_88 hl (by decide) rfl (fun ls hl => ?_)
    refine lv_iconst (v := (0 : Int32)) hx hb dX10_past_90 (by decide) ?_
    refine lv_istore (lv' := [(5, .int (0 : Int32)), (4, .int (0 : Int32)), (0, .ref x0), (2, .int x2), (3, .int x3)]) hx hb dX10_past_91 hl (by decide) rfl (fun ls hl => ?_)
    refine lv_iconst (v := (0 : Int32)) hx hb dX10_past_93 (by decide) ?_
    refine lv_istore (lv' := [(6, .int (0 : Int32)), (5, .int (0 : Int32)), (4, .int (0 : Int32)), (0, .ref x0), (2, .int x2), (3, .int x3)]) hx hb dX10_past_94 hl (by decide) rfl (fun ls hl => ?_)
    exact bX10_past_96 C hn LF _ _ _ _ _ _ _ _ hf _ _ _ _ _ (by omega) (by omega) hw (lv_sub hl [3, 4, 5, 2, 1, 0] rfl)
  · have hf := ie hf c2
    refine lv_iconst (v := (0 : Int32)) hx hb dX10_past_85 (by decide) ?_
    obtain ⟨rfl, rfl⟩ := sp hf
    exact r_iret C hw rfl rfl (by omega) (by omega) dX10_past_86
set_option maxRecDepth 100000 in
set_option maxHeartbeats 4000000 in
theorem bX10_past_73 {D : va_G} {cy : Nat → ClassId} {s0 : Nat} {p : Program} {l : Launch} {e : Env} {s : State} {m : MethodId} {args : Array Value} {below : List Frame} {meth : Method} {c : Code} (C : CX D cy s0 p s m args meth c cX10_past 7 RX10 (some .int)) (hn : meth.name = "past") : ∀ (x0 : Nat) (x2 : Int32) (x3 : Int32) (y0 : Nat) (h : Hp) (r : Int32 × Hp), fX10_past_73 x0 x2 x3 y0 h = some r → pX10_past_73 D cy s0 p l e s m args below meth c r x0 x2 x3 y0 h := by
  intro x0 x2 x3 y0 h ⟨rv, rh⟩ hf H locs ls cells slots hc hs hw hl
  unfold fX10_past_73 at hf
  have hx := C.1
  have hb := C.2.1
  refine lv_iconst (v := (1 : Int32)) hx hb dX10_past_73 (by decide) ?_
  refine lv_goto (tgt := 78) hx hb dX10_past_74 (by decide) ?_
  exact bX10_past_78 C hn _ _ _ _ _ _ _ hf _ _ _ _ _ (by omega) (by omega) hw (lv_sub hl [0, 1, 2] rfl)
set_option maxRecDepth 100000 in
set_option maxHeartbeats 4000000 in
theorem bX10_past_42 {D : va_G} {cy : Nat → ClassId} {s0 : Nat} {p : Program} {l : Launch} {e : Env} {s : State} {m : MethodId} {args : Array Value} {below : List Frame} {meth : Method} {c : Code} (C : CX D cy s0 p s m args meth c cX10_past 7 RX10 (some .int)) (hn : meth.name = "past") : ∀ (x0 : Nat) (x1 : Int32) (x2 : Int32) (x3 : Int32) (y0 : Int32) (y1 : Nat) (h : Hp) (r : Int32 × Hp), fX10_past_42 x0 x1 x2 x3 y0 y1 h = some r → pX10_past_42 D cy s0 p l e s m args below meth c r x0 x1 x2 x3 y0 y1 h := by
  intro x0 x1 x2 x3 y0 y1 h ⟨rv, rh⟩ hf H locs ls cells slots hc hs hw hl
  unfold fX10_past_42 at hf
  have hx := C.1
  have hb := C.2.1
  refine lv_iconst (v := (2 : Int32)) hx hb dX10_past_42 (by decide) ?_
  obtain ⟨kb1, hf⟩ := ig hf
  obtain ⟨z1, h1, e1, hf⟩ := ob2 hf
  refine r_callV C hw (mX10_bad e1) kXX10_bad ck10 rfl kb1 w1132 w1134 v35 ⟨Nat.le_of_ble_eq_true rfl, Nat.le_of_ble_eq_true rfl⟩ rfl hl.1 (rest := []) rfl (Nat.le_of_ble_eq_true rfl) dX10_past_43 (mc := 0) (ms := 0) rfl rfl ⟨by show _ + 0 ≤ 0; omega, by show _ + 0 ≤ 0; omega⟩ (fun H locs hw => ?_)
  refine W.eq (g2 := F0 m 46 ls [.int z1]) rfl ?_
  refine lv_if_eq (tgt := 51) hx hb dX10_past_46 (by decide) (fun c2 => ?_) (fun c2 => ?_)
  · have hf := ip hf c2
    refine lv_aload_n hx hb dX10_past_51 rfl (lv_at hl 0 rfl) ?_
    refine lv_iload_n hx hb dX10_past_52 rfl (lv_at hl 1 rfl) ?_
    obtain ⟨kb3, hf⟩ := ig hf
    obtain ⟨z3, h3, e3, hf⟩ := ob2 hf
    refine r_callV C hw (mX10_work e3) kXX10_work ck10 rfl kb3 w1245 w1247 v53 ⟨Nat.le_of_ble_eq_true rfl, Nat.le_of_ble_eq_true rfl⟩ rfl hl.1 (rest := []) rfl (Nat.le_of_ble_eq_true rfl) dX10_past_53 (mc := 0) (ms := 0) rfl rfl ⟨by show _ + 0 ≤ 0; omega, by show _ + 0 ≤ 0; omega⟩ (fun H locs hw => ?_)
    refine W.eq (g2 := F0 m 56 ls []) rfl ?_
    refine lv_aload_n hx hb dX10_past_56 rfl (lv_at hl 0 rfl) ?_
    refine lv_iload_n hx hb dX10_past_57 rfl (lv_at hl 3 rfl) ?_
    refine lv_aload_n hx hb dX10_past_58 rfl (lv_at hl 0 rfl) ?_
    obtain ⟨z4, e4, hf⟩ := ob hf
    refine r_gI C hw e4 ck10 rfl (by decide) w1005 dX10_past_59 ?_
    refine lv_icmp_lt (tgt := 73) hx hb dX10_past_62 (by decide) (fun c5 => ?_) (fun c5 => ?_)
    · have hf := ip hf c5
      exact bX10_past_73 C hn _ _ _ _ _ _ hf _ _ _ _ _ (by omega) (by omega) hw (lv_sub hl [0, 2, 3] rfl)
    · have hf := ie hf c5
      refine lv_iload_n hx hb dX10_past_65 rfl (lv_at hl 3 rfl) ?_
      refine lv_aload_n hx hb dX10_past_66 rfl (lv_at hl 0 rfl) ?_
      obtain ⟨z6, e6, hf⟩ := ob hf
      refine r_gI C hw e6 ck10 rfl (by decide) w1003 dX10_past_67 ?_
      refine lv_icmp_le (tgt := 77) hx hb dX10_past_70 (by decide) (fun c7 => ?_) (fun c7 => ?_)
      · have hf := ip hf c7
        refine lv_iconst (v := (0 : Int32)) hx hb dX10_past_77 (by decide) ?_
        exact bX10_past_78 C hn _ _ _ _ _ _ _ hf _ _ _ _ _ (by omega) (by omega) hw (lv_sub hl [0, 2, 3] rfl)
      · have hf := ie hf c7
        exact bX10_past_73 C hn _ _ _ _ _ _ hf _ _ _ _ _ (by omega) (by omega) hw (lv_sub hl [0, 2, 3] rfl)
  · have hf := ie hf c2
    refine lv_iconst (v := (0 : Int32)) hx hb dX10_past_49 (by decide) ?_
    obtain ⟨rfl, rfl⟩ := sp hf
    exact r_iret C hw rfl rfl (by omega) (by omega) dX10_past_50
set_option maxRecDepth 100000 in
set_option maxHeartbeats 4000000 in
theorem bX10_past_20 {D : va_G} {cy : Nat → ClassId} {s0 : Nat} {p : Program} {l : Launch} {e : Env} {s : State} {m : MethodId} {args : Array Value} {below : List Frame} {meth : Method} {c : Code} (C : CX D cy s0 p s m args meth c cX10_past 7 RX10 (some .int)) (hn : meth.name = "past") : ∀ (x0 : Nat) (x1 : Int32) (x2 : Int32) (x3 : Int32) (y0 : Int32) (y1 : Nat) (h : Hp) (r : Int32 × Hp), fX10_past_20 x0 x1 x2 x3 y0 y1 h = some r → pX10_past_20 D cy s0 p l e s m args below meth c r x0 x1 x2 x3 y0 y1 h := by
  intro x0 x1 x2 x3 y0 y1 h ⟨rv, rh⟩ hf H locs ls cells slots hc hs hw hl
  unfold fX10_past_20 at hf
  have hx := C.1
  have hb := C.2.1
  refine lv_iconst (v := (1 : Int32)) hx hb dX10_past_20 (by decide) ?_
  obtain ⟨kb1, hf⟩ := ig hf
  obtain ⟨z1, h1, e1, hf⟩ := ob2 hf
  refine r_callV C hw (mX10_bad e1) kXX10_bad ck10 rfl kb1 w1132 w1134 v35 ⟨Nat.le_of_ble_eq_true rfl, Nat.le_of_ble_eq_true rfl⟩ rfl hl.1 (rest := []) rfl (Nat.le_of_ble_eq_true rfl) dX10_past_21 (mc := 0) (ms := 0) rfl rfl ⟨by show _ + 0 ≤ 0; omega, by show _ + 0 ≤ 0; omega⟩ (fun H locs hw => ?_)
  refine W.eq (g2 := F0 m 24 ls [.int z1]) rfl ?_
  refine lv_if_ne (tgt := 49) hx hb dX10_past_24 (by decide) (fun c2 => ?_) (fun c2 => ?_)
  · have hf := ie hf c2
    refine lv_iconst (v := (0 : Int32)) hx hb dX10_past_49 (by decide) ?_
    obtain ⟨rfl, rfl⟩ := sp hf
    exact r_iret C hw rfl rfl (by omega) (by omega) dX10_past_50
  · have hf := ip hf c2
    refine lv_aload_n hx hb dX10_past_27 rfl (lv_at hl 0 rfl) ?_
    refine lv_aload_n hx hb dX10_past_28 rfl (lv_at hl 0 rfl) ?_
    obtain ⟨z3, e3, hf⟩ := ob hf
    refine r_gR C hw e3 ck10 rfl (by decide) w964 dX10_past_29 ?_
    cases z3 with
    | none =>
      have hf := on_n hf
      cases hf
    | some a4 =>
      have hf := on_s hf
      refine W.eq (g2 := F0 m 32 ls [.ref a4, .ref x0]) rfl ?_
      refine lv_iload_n hx hb dX10_past_32 rfl (lv_at hl 1 rfl) ?_
      obtain ⟨z5, e5, hf⟩ := ob hf
      refine r_zald C hw e5 dX10_past_33 ?_
      refine lv_if_ne (tgt := 41) hx hb dX10_past_34 (by decide) (fun c6 => ?_) (fun c6 => ?_)
      · have hf := ie hf c6
        refine lv_iconst (v := (0 : Int32)) hx hb dX10_past_41 (by decide) ?_
        exact bX10_past_42 C hn _ _ _ _ _ _ _ _ hf _ _ _ _ _ (by omega) (by omega) hw (lv_sub hl [0, 1, 2, 3] rfl)
      · have hf := ip hf c6
        refine lv_iconst (v := (1 : Int32)) hx hb dX10_past_37 (by decide) ?_
        refine lv_goto (tgt := 42) hx hb dX10_past_38 (by decide) ?_
        exact bX10_past_42 C hn _ _ _ _ _ _ _ _ hf _ _ _ _ _ (by omega) (by omega) hw (lv_sub hl [0, 1, 2, 3] rfl)
set_option maxRecDepth 100000 in
set_option maxHeartbeats 4000000 in
theorem bX10_past_15 {D : va_G} {cy : Nat → ClassId} {s0 : Nat} {p : Program} {l : Launch} {e : Env} {s : State} {m : MethodId} {args : Array Value} {below : List Frame} {meth : Method} {c : Code} (C : CX D cy s0 p s m args meth c cX10_past 7 RX10 (some .int)) (hn : meth.name = "past") : ∀ (x0 : Nat) (x1 : Int32) (x2 : Int32) (x3 : Int32) (y0 : Nat) (h : Hp) (r : Int32 × Hp), fX10_past_15 x0 x1 x2 x3 y0 h = some r → pX10_past_15 D cy s0 p l e s m args below meth c r x0 x1 x2 x3 y0 h := by
  intro x0 x1 x2 x3 y0 h ⟨rv, rh⟩ hf H locs ls cells slots hc hs hw hl
  unfold fX10_past_15 at hf
  have hx := C.1
  have hb := C.2.1
  refine lv_iconst (v := (1 : Int32)) hx hb dX10_past_15 (by decide) ?_
  refine lv_goto (tgt := 20) hx hb dX10_past_16 (by decide) ?_
  exact bX10_past_20 C hn _ _ _ _ _ _ _ _ hf _ _ _ _ _ (by omega) (by omega) hw (lv_sub hl [0, 1, 2, 3] rfl)
set_option maxRecDepth 100000 in
set_option maxHeartbeats 4000000 in
theorem bX10_past {D : va_G} {cy : Nat → ClassId} {s0 : Nat} {p : Program} {l : Launch} {e : Env} {s : State} {m : MethodId} {args : Array Value} {below : List Frame} {meth : Method} {c : Code} (C : CX D cy s0 p s m args meth c cX10_past 7 RX10 (some .int)) (hn : meth.name = "past") : ∀ (x0 : Nat) (x1 : Int32) (x2 : Int32) (x3 : Int32) (h : Hp) (r : Int32 × Hp), fX10_past x0 x1 x2 x3 h = some r → pX10_past D cy s0 p l e s m args below meth c r x0 x1 x2 x3 h := by
  intro x0 x1 x2 x3 h ⟨rv, rh⟩ hf H locs ls cells slots hc hs hw hl
  unfold fX10_past at hf
  have hx := C.1
  have hb := C.2.1
  refine lv_aload_n hx hb dX10_past_0 rfl (lv_at hl 0 rfl) ?_
  refine lv_iload_n hx hb dX10_past_1 rfl (lv_at hl 1 rfl) ?_
  obtain ⟨z1, h1, e1, hf⟩ := ob2 hf
  refine r_callS C hw (mX10_isNode e1) kXX10_isNode w1129 w1130 ⟨Nat.le_of_ble_eq_true rfl, Nat.le_of_ble_eq_true rfl⟩ rfl hl.1 (rest := [.ref x0]) rfl (Nat.le_of_ble_eq_true rfl) dX10_past_2 (mc := 0) (ms := 0) rfl rfl ⟨by show _ + 0 ≤ 0; omega, by show _ + 0 ≤ 0; omega⟩ (fun H locs hw => ?_)
  refine W.eq (g2 := F0 m 5 ls [.int z1, .ref x0]) rfl ?_
  refine lv_if_eq (tgt := 15) hx hb dX10_past_5 (by decide) (fun c2 => ?_) (fun c2 => ?_)
  · have hf := ip hf c2
    exact bX10_past_15 C hn _ _ _ _ _ _ _ hf _ _ _ _ _ (by omega) (by omega) hw (lv_sub hl [0, 1, 2, 3] rfl)
  · have hf := ie hf c2
    refine lv_iload_n hx hb dX10_past_8 rfl (lv_at hl 2 rfl) ?_
    obtain ⟨z3, h3, e3, hf⟩ := ob2 hf
    refine r_callS C hw (mX10_isKey e3) kXX10_isKey w1218 w1219 ⟨Nat.le_of_ble_eq_true rfl, Nat.le_of_ble_eq_true rfl⟩ rfl hl.1 (rest := [.ref x0]) rfl (Nat.le_of_ble_eq_true rfl) dX10_past_9 (mc := 0) (ms := 0) rfl rfl ⟨by show _ + 0 ≤ 0; omega, by show _ + 0 ≤ 0; omega⟩ (fun H locs hw => ?_)
    refine W.eq (g2 := F0 m 12 ls [.int z3, .ref x0]) rfl ?_
    refine lv_if_ne (tgt := 19) hx hb dX10_past_12 (by decide) (fun c4 => ?_) (fun c4 => ?_)
    · have hf := ie hf c4
      refine lv_iconst (v := (0 : Int32)) hx hb dX10_past_19 (by decide) ?_
      exact bX10_past_20 C hn _ _ _ _ _ _ _ _ hf _ _ _ _ _ (by omega) (by omega) hw (lv_sub hl [0, 1, 2, 3] rfl)
    · have hf := ip hf c4
      exact bX10_past_15 C hn _ _ _ _ _ _ _ hf _ _ _ _ _ (by omega) (by omega) hw (lv_sub hl [0, 1, 2, 3] rfl)
theorem kXX10_past : MK yX10_past cX10_past 7 (some .int) 3 := ⟨w1284, w8, by decide +kernel⟩
theorem mX10_past {D : va_G} {cy : Nat → ClassId} {s0 : Nat} {l : Launch} {x0 : Nat} {x1 : Int32} {x2 : Int32} {x3 : Int32} {h : Hp} {v : Int32} {h1 : Hp} (hf : fX10_past x0 x1 x2 x3 h = some (v, h1)) : MT D cy s0 l yX10_past cX10_past 7 (some .int) rX10_past [.ref x0, .int x1, .int x2, .int x3] h (some (.int v)) h1 := by
  refine MT.of (by decide +kernel) (Nat.le_of_ble_eq_true rfl) ?_
  intro p e s m below meth c H locs ls C hn hw hl
  exact bX10_past C hn _ _ _ _ _ _ hf _ _ _ _ _ (Nat.le_of_ble_eq_true rfl) (Nat.le_of_ble_eq_true rfl) hw hl
abbrev rX10_power : Room := { frames := 1, cells := 0, slots := 0, locals := 22 }
abbrev pX10_power_37 (D : va_G) (cy : Nat → ClassId) (s0 : Nat) (p : Program) (l : Launch) (e : Env) (s : State) (m : MethodId) (args : Array Value) (below : List Frame) (meth : Method) (c : Code) (r : Unit × Hp) (x0 : Nat) (x1 : Int32) (x2 : Int32) (y0 : Int32) (y1 : Nat) (h : Hp) : Prop := ∀ (H : Heap) (locs : List Loc) (ls : Array Slot) (cells slots : Nat), cells + (0) ≤ 0 → slots + (0) ≤ 0 → WS D cy s0 s h H locs → lv_has ls 3 [(0, .ref x0), (1, .int x1), (2, .int x2)] → W p l e rX10_power s m args below meth c H locs cells slots (MQ below (QQ D cy s0 none r.2) args s 0 0 (fun q => s0 ≤ q)) (F0 m 37 ls [.int y0, .ref y1])
abbrev pX10_power_32 (D : va_G) (cy : Nat → ClassId) (s0 : Nat) (p : Program) (l : Launch) (e : Env) (s : State) (m : MethodId) (args : Array Value) (below : List Frame) (meth : Method) (c : Code) (r : Unit × Hp) (x0 : Nat) (x1 : Int32) (x2 : Int32) (y0 : Nat) (h : Hp) : Prop := ∀ (H : Heap) (locs : List Loc) (ls : Array Slot) (cells slots : Nat), cells + (0) ≤ 0 → slots + (0) ≤ 0 → WS D cy s0 s h H locs → lv_has ls 3 [(0, .ref x0), (1, .int x1), (2, .int x2)] → W p l e rX10_power s m args below meth c H locs cells slots (MQ below (QQ D cy s0 none r.2) args s 0 0 (fun q => s0 ≤ q)) (F0 m 32 ls [.ref y0])
abbrev pX10_power_13 (D : va_G) (cy : Nat → ClassId) (s0 : Nat) (p : Program) (l : Launch) (e : Env) (s : State) (m : MethodId) (args : Array Value) (below : List Frame) (meth : Method) (c : Code) (r : Unit × Hp) (x0 : Nat) (x1 : Int32) (x2 : Int32) (y0 : Int32) (y1 : Nat) (h : Hp) : Prop := ∀ (H : Heap) (locs : List Loc) (ls : Array Slot) (cells slots : Nat), cells + (0) ≤ 0 → slots + (0) ≤ 0 → WS D cy s0 s h H locs → lv_has ls 3 [(0, .ref x0), (1, .int x1), (2, .int x2)] → W p l e rX10_power s m args below meth c H locs cells slots (MQ below (QQ D cy s0 none r.2) args s 0 0 (fun q => s0 ≤ q)) (F0 m 13 ls [.int y0, .ref y1])
abbrev pX10_power (D : va_G) (cy : Nat → ClassId) (s0 : Nat) (p : Program) (l : Launch) (e : Env) (s : State) (m : MethodId) (args : Array Value) (below : List Frame) (meth : Method) (c : Code) (r : Unit × Hp) (x0 : Nat) (x1 : Int32) (x2 : Int32) (h : Hp) : Prop := ∀ (H : Heap) (locs : List Loc) (ls : Array Slot) (cells slots : Nat), cells + (0) ≤ 0 → slots + (0) ≤ 0 → WS D cy s0 s h H locs → lv_has ls 3 [(0, .ref x0), (1, .int x1), (2, .int x2)] → W p l e rX10_power s m args below meth c H locs cells slots (MQ below (QQ D cy s0 none r.2) args s 0 0 (fun q => s0 ≤ q)) (F0 m 0 ls [])
set_option maxRecDepth 100000 in
set_option maxHeartbeats 4000000 in
theorem bX10_power_37 {D : va_G} {cy : Nat → ClassId} {s0 : Nat} {p : Program} {l : Launch} {e : Env} {s : State} {m : MethodId} {args : Array Value} {below : List Frame} {meth : Method} {c : Code} (C : CX D cy s0 p s m args meth c cX10_power 3 RX10 none) (hn : meth.name = "power") : ∀ (x0 : Nat) (x1 : Int32) (x2 : Int32) (y0 : Int32) (y1 : Nat) (h : Hp) (r : Unit × Hp), fX10_power_37 x0 x1 x2 y0 y1 h = some r → pX10_power_37 D cy s0 p l e s m args below meth c r x0 x1 x2 y0 y1 h := by
  intro x0 x1 x2 y0 y1 h ⟨rv, rh⟩ hf H locs ls cells slots hc hs hw hl
  unfold fX10_power_37 at hf
  have hx := C.1
  have hb := C.2.1
  refine lv_iconst (v := (2 : Int32)) hx hb dX10_power_37 (by decide) ?_
  obtain ⟨kb1, hf⟩ := ig hf
  obtain ⟨z1, h1, e1, hf⟩ := ob2 hf
  refine r_callV C hw (mX10_bad e1) kXX10_bad ck10 rfl kb1 w1132 w1134 v35 ⟨Nat.le_of_ble_eq_true rfl, Nat.le_of_ble_eq_true rfl⟩ rfl hl.1 (rest := []) rfl (Nat.le_of_ble_eq_true rfl) dX10_power_38 (mc := 0) (ms := 0) rfl rfl ⟨by show _ + 0 ≤ 0; omega, by show _ + 0 ≤ 0; omega⟩ (fun H locs hw => ?_)
  refine W.eq (g2 := F0 m 41 ls [.int z1]) rfl ?_
  refine lv_if_ne (tgt := 51) hx hb dX10_power_41 (by decide) (fun c2 => ?_) (fun c2 => ?_)
  · have hf := ie hf c2
    obtain ⟨rfl, rfl⟩ := sp hf
    exact r_vret C hw rfl (by omega) (by omega) dX10_power_51
  · have hf := ip hf c2
    refine lv_aload_n hx hb dX10_power_44 rfl (lv_at hl 0 rfl) ?_
    obtain ⟨z3, e3, hf⟩ := ob hf
    refine r_gR C hw e3 ck10 rfl (by decide) w973 dX10_power_45 ?_
    cases z3 with
    | none =>
      have hf := on_n hf
      cases hf
    | some a4 =>
      have hf := on_s hf
      refine W.eq (g2 := F0 m 48 ls [.ref a4]) rfl ?_
      refine lv_iload_n hx hb dX10_power_48 rfl (lv_at hl 1 rfl) ?_
      refine lv_iload_n hx hb dX10_power_49 rfl (lv_at hl 2 rfl) ?_
      obtain ⟨h5, e5, hf⟩ := ob hf
      refine r_iast C hw e5 dX10_power_50 (fun H locs hw => ?_)
      obtain ⟨rfl, rfl⟩ := sp hf
      exact r_vret C hw rfl (by omega) (by omega) dX10_power_51
set_option maxRecDepth 100000 in
set_option maxHeartbeats 4000000 in
theorem bX10_power_32 {D : va_G} {cy : Nat → ClassId} {s0 : Nat} {p : Program} {l : Launch} {e : Env} {s : State} {m : MethodId} {args : Array Value} {below : List Frame} {meth : Method} {c : Code} (C : CX D cy s0 p s m args meth c cX10_power 3 RX10 none) (hn : meth.name = "power") : ∀ (x0 : Nat) (x1 : Int32) (x2 : Int32) (y0 : Nat) (h : Hp) (r : Unit × Hp), fX10_power_32 x0 x1 x2 y0 h = some r → pX10_power_32 D cy s0 p l e s m args below meth c r x0 x1 x2 y0 h := by
  intro x0 x1 x2 y0 h ⟨rv, rh⟩ hf H locs ls cells slots hc hs hw hl
  unfold fX10_power_32 at hf
  have hx := C.1
  have hb := C.2.1
  refine lv_iconst (v := (1 : Int32)) hx hb dX10_power_32 (by decide) ?_
  refine lv_goto (tgt := 37) hx hb dX10_power_33 (by decide) ?_
  exact bX10_power_37 C hn _ _ _ _ _ _ _ hf _ _ _ _ _ (by omega) (by omega) hw (lv_sub hl [0, 1, 2] rfl)
set_option maxRecDepth 100000 in
set_option maxHeartbeats 4000000 in
theorem bX10_power_13 {D : va_G} {cy : Nat → ClassId} {s0 : Nat} {p : Program} {l : Launch} {e : Env} {s : State} {m : MethodId} {args : Array Value} {below : List Frame} {meth : Method} {c : Code} (C : CX D cy s0 p s m args meth c cX10_power 3 RX10 none) (hn : meth.name = "power") : ∀ (x0 : Nat) (x1 : Int32) (x2 : Int32) (y0 : Int32) (y1 : Nat) (h : Hp) (r : Unit × Hp), fX10_power_13 x0 x1 x2 y0 y1 h = some r → pX10_power_13 D cy s0 p l e s m args below meth c r x0 x1 x2 y0 y1 h := by
  intro x0 x1 x2 y0 y1 h ⟨rv, rh⟩ hf H locs ls cells slots hc hs hw hl
  unfold fX10_power_13 at hf
  have hx := C.1
  have hb := C.2.1
  refine lv_iconst (v := (1 : Int32)) hx hb dX10_power_13 (by decide) ?_
  obtain ⟨kb1, hf⟩ := ig hf
  obtain ⟨z1, h1, e1, hf⟩ := ob2 hf
  refine r_callV C hw (mX10_bad e1) kXX10_bad ck10 rfl kb1 w1132 w1134 v35 ⟨Nat.le_of_ble_eq_true rfl, Nat.le_of_ble_eq_true rfl⟩ rfl hl.1 (rest := []) rfl (Nat.le_of_ble_eq_true rfl) dX10_power_14 (mc := 0) (ms := 0) rfl rfl ⟨by show _ + 0 ≤ 0; omega, by show _ + 0 ≤ 0; omega⟩ (fun H locs hw => ?_)
  refine W.eq (g2 := F0 m 17 ls [.int z1]) rfl ?_
  refine lv_if_ne (tgt := 51) hx hb dX10_power_17 (by decide) (fun c2 => ?_) (fun c2 => ?_)
  · have hf := ie hf c2
    obtain ⟨rfl, rfl⟩ := sp hf
    exact r_vret C hw rfl (by omega) (by omega) dX10_power_51
  · have hf := ip hf c2
    refine lv_aload_n hx hb dX10_power_20 rfl (lv_at hl 0 rfl) ?_
    refine lv_iload_n hx hb dX10_power_21 rfl (lv_at hl 2 rfl) ?_
    refine lv_iconst (v := (-1 : Int32)) hx hb dX10_power_22 (by decide) ?_
    refine lv_icmp_lt (tgt := 32) hx hb dX10_power_23 (by decide) (fun c3 => ?_) (fun c3 => ?_)
    · have hf := ip hf c3
      exact bX10_power_32 C hn _ _ _ _ _ _ hf _ _ _ _ _ (by omega) (by omega) hw (lv_sub hl [0, 1, 2] rfl)
    · have hf := ie hf c3
      refine lv_iload_n hx hb dX10_power_26 rfl (lv_at hl 2 rfl) ?_
      refine lv_bipush (v := (100 : Int32)) hx hb dX10_power_27 (by decide) ?_
      refine lv_icmp_le (tgt := 36) hx hb dX10_power_29 (by decide) (fun c4 => ?_) (fun c4 => ?_)
      · have hf := ip hf c4
        refine lv_iconst (v := (0 : Int32)) hx hb dX10_power_36 (by decide) ?_
        exact bX10_power_37 C hn _ _ _ _ _ _ _ hf _ _ _ _ _ (by omega) (by omega) hw (lv_sub hl [0, 1, 2] rfl)
      · have hf := ie hf c4
        exact bX10_power_32 C hn _ _ _ _ _ _ hf _ _ _ _ _ (by omega) (by omega) hw (lv_sub hl [0, 1, 2] rfl)
set_option maxRecDepth 100000 in
set_option maxHeartbeats 4000000 in
theorem bX10_power {D : va_G} {cy : Nat → ClassId} {s0 : Nat} {p : Program} {l : Launch} {e : Env} {s : State} {m : MethodId} {args : Array Value} {below : List Frame} {meth : Method} {c : Code} (C : CX D cy s0 p s m args meth c cX10_power 3 RX10 none) (hn : meth.name = "power") : ∀ (x0 : Nat) (x1 : Int32) (x2 : Int32) (h : Hp) (r : Unit × Hp), fX10_power x0 x1 x2 h = some r → pX10_power D cy s0 p l e s m args below meth c r x0 x1 x2 h := by
  intro x0 x1 x2 h ⟨rv, rh⟩ hf H locs ls cells slots hc hs hw hl
  unfold fX10_power at hf
  have hx := C.1
  have hb := C.2.1
  refine lv_aload_n hx hb dX10_power_0 rfl (lv_at hl 0 rfl) ?_
  refine lv_iload_n hx hb dX10_power_1 rfl (lv_at hl 1 rfl) ?_
  obtain ⟨z1, h1, e1, hf⟩ := ob2 hf
  refine r_callS C hw (mX10_isNode e1) kXX10_isNode w1129 w1130 ⟨Nat.le_of_ble_eq_true rfl, Nat.le_of_ble_eq_true rfl⟩ rfl hl.1 (rest := [.ref x0]) rfl (Nat.le_of_ble_eq_true rfl) dX10_power_2 (mc := 0) (ms := 0) rfl rfl ⟨by show _ + 0 ≤ 0; omega, by show _ + 0 ≤ 0; omega⟩ (fun H locs hw => ?_)
  refine W.eq (g2 := F0 m 5 ls [.int z1, .ref x0]) rfl ?_
  refine lv_if_ne (tgt := 12) hx hb dX10_power_5 (by decide) (fun c2 => ?_) (fun c2 => ?_)
  · have hf := ie hf c2
    refine lv_iconst (v := (0 : Int32)) hx hb dX10_power_12 (by decide) ?_
    exact bX10_power_13 C hn _ _ _ _ _ _ _ hf _ _ _ _ _ (by omega) (by omega) hw (lv_sub hl [0, 1, 2] rfl)
  · have hf := ip hf c2
    refine lv_iconst (v := (1 : Int32)) hx hb dX10_power_8 (by decide) ?_
    refine lv_goto (tgt := 13) hx hb dX10_power_9 (by decide) ?_
    exact bX10_power_13 C hn _ _ _ _ _ _ _ hf _ _ _ _ _ (by omega) (by omega) hw (lv_sub hl [0, 1, 2] rfl)
theorem kXX10_power : MK yX10_power cX10_power 3 none 2 := ⟨w1240, w8, by decide +kernel⟩
theorem mX10_power {D : va_G} {cy : Nat → ClassId} {s0 : Nat} {l : Launch} {x0 : Nat} {x1 : Int32} {x2 : Int32} {h : Hp} {v : Unit} {h1 : Hp} (hf : fX10_power x0 x1 x2 h = some (v, h1)) : MT D cy s0 l yX10_power cX10_power 3 none rX10_power [.ref x0, .int x1, .int x2] h none h1 := by
  refine MT.of (by decide +kernel) (Nat.le_of_ble_eq_true rfl) ?_
  intro p e s m below meth c H locs ls C hn hw hl
  exact bX10_power C hn _ _ _ _ _ hf _ _ _ _ _ (Nat.le_of_ble_eq_true rfl) (Nat.le_of_ble_eq_true rfl) hw hl
abbrev rX10_propose : Room := { frames := 4, cells := 0, slots := 0, locals := 95 }
abbrev pX10_propose_81 (D : va_G) (cy : Nat → ClassId) (s0 : Nat) (p : Program) (l : Launch) (e : Env) (s : State) (m : MethodId) (args : Array Value) (below : List Frame) (meth : Method) (c : Code) (r : Int32 × Hp) (x0 : Nat) (x1 : Int32) (x2 : Int32) (x3 : Int32) (x4 : Int32) (y0 : Int32) (y1 : Nat) (h : Hp) : Prop := ∀ (H : Heap) (locs : List Loc) (ls : Array Slot) (cells slots : Nat), cells + (0) ≤ 0 → slots + (0) ≤ 0 → WS D cy s0 s h H locs → lv_has ls 5 [(0, .ref x0), (1, .int x1), (2, .int x2), (3, .int x3), (4, .int x4)] → W p l e rX10_propose s m args below meth c H locs cells slots (MQ below (QQ D cy s0 (some (.int r.1)) r.2) args s 0 0 (fun q => s0 ≤ q)) (F0 m 81 ls [.int y0, .ref y1])
abbrev pX10_propose_76 (D : va_G) (cy : Nat → ClassId) (s0 : Nat) (p : Program) (l : Launch) (e : Env) (s : State) (m : MethodId) (args : Array Value) (below : List Frame) (meth : Method) (c : Code) (r : Int32 × Hp) (x0 : Nat) (x1 : Int32) (x2 : Int32) (x3 : Int32) (x4 : Int32) (y0 : Nat) (h : Hp) : Prop := ∀ (H : Heap) (locs : List Loc) (ls : Array Slot) (cells slots : Nat), cells + (0) ≤ 0 → slots + (0) ≤ 0 → WS D cy s0 s h H locs → lv_has ls 5 [(0, .ref x0), (1, .int x1), (2, .int x2), (3, .int x3), (4, .int x4)] → W p l e rX10_propose s m args below meth c H locs cells slots (MQ below (QQ D cy s0 (some (.int r.1)) r.2) args s 0 0 (fun q => s0 ≤ q)) (F0 m 76 ls [.ref y0])
abbrev pX10_propose_37 (D : va_G) (cy : Nat → ClassId) (s0 : Nat) (p : Program) (l : Launch) (e : Env) (s : State) (m : MethodId) (args : Array Value) (below : List Frame) (meth : Method) (c : Code) (r : Int32 × Hp) (x0 : Nat) (x1 : Int32) (x2 : Int32) (x3 : Int32) (x4 : Int32) (y0 : Int32) (y1 : Nat) (h : Hp) : Prop := ∀ (H : Heap) (locs : List Loc) (ls : Array Slot) (cells slots : Nat), cells + (0) ≤ 0 → slots + (0) ≤ 0 → WS D cy s0 s h H locs → lv_has ls 5 [(0, .ref x0), (1, .int x1), (2, .int x2), (3, .int x3), (4, .int x4)] → W p l e rX10_propose s m args below meth c H locs cells slots (MQ below (QQ D cy s0 (some (.int r.1)) r.2) args s 0 0 (fun q => s0 ≤ q)) (F0 m 37 ls [.int y0, .ref y1])
abbrev pX10_propose_13 (D : va_G) (cy : Nat → ClassId) (s0 : Nat) (p : Program) (l : Launch) (e : Env) (s : State) (m : MethodId) (args : Array Value) (below : List Frame) (meth : Method) (c : Code) (r : Int32 × Hp) (x0 : Nat) (x1 : Int32) (x2 : Int32) (x3 : Int32) (x4 : Int32) (y0 : Int32) (y1 : Nat) (h : Hp) : Prop := ∀ (H : Heap) (locs : List Loc) (ls : Array Slot) (cells slots : Nat), cells + (0) ≤ 0 → slots + (0) ≤ 0 → WS D cy s0 s h H locs → lv_has ls 5 [(0, .ref x0), (1, .int x1), (2, .int x2), (3, .int x3), (4, .int x4)] → W p l e rX10_propose s m args below meth c H locs cells slots (MQ below (QQ D cy s0 (some (.int r.1)) r.2) args s 0 0 (fun q => s0 ≤ q)) (F0 m 13 ls [.int y0, .ref y1])
abbrev pX10_propose (D : va_G) (cy : Nat → ClassId) (s0 : Nat) (p : Program) (l : Launch) (e : Env) (s : State) (m : MethodId) (args : Array Value) (below : List Frame) (meth : Method) (c : Code) (r : Int32 × Hp) (x0 : Nat) (x1 : Int32) (x2 : Int32) (x3 : Int32) (x4 : Int32) (h : Hp) : Prop := ∀ (H : Heap) (locs : List Loc) (ls : Array Slot) (cells slots : Nat), cells + (0) ≤ 0 → slots + (0) ≤ 0 → WS D cy s0 s h H locs → lv_has ls 5 [(0, .ref x0), (1, .int x1), (2, .int x2), (3, .int x3), (4, .int x4)] → W p l e rX10_propose s m args below meth c H locs cells slots (MQ below (QQ D cy s0 (some (.int r.1)) r.2) args s 0 0 (fun q => s0 ≤ q)) (F0 m 0 ls [])
set_option maxRecDepth 100000 in
set_option maxHeartbeats 4000000 in
theorem bX10_propose_81 {D : va_G} {cy : Nat → ClassId} {s0 : Nat} {p : Program} {l : Launch} {e : Env} {s : State} {m : MethodId} {args : Array Value} {below : List Frame} {meth : Method} {c : Code} (C : CX D cy s0 p s m args meth c cX10_propose 5 RX10 (some .int)) (hn : meth.name = "propose") : ∀ (x0 : Nat) (x1 : Int32) (x2 : Int32) (x3 : Int32) (x4 : Int32) (y0 : Int32) (y1 : Nat) (h : Hp) (r : Int32 × Hp), fX10_propose_81 x0 x1 x2 x3 x4 y0 y1 h = some r → pX10_propose_81 D cy s0 p l e s m args below meth c r x0 x1 x2 x3 x4 y0 y1 h := by
  intro x0 x1 x2 x3 x4 y0 y1 h ⟨rv, rh⟩ hf H locs ls cells slots hc hs hw hl
  unfold fX10_propose_81 at hf
  have hx := C.1
  have hb := C.2.1
  refine lv_iconst (v := (3 : Int32)) hx hb dX10_propose_81 (by decide) ?_
  obtain ⟨kb1, hf⟩ := ig hf
  obtain ⟨z1, h1, e1, hf⟩ := ob2 hf
  refine r_callV C hw (mX10_bad e1) kXX10_bad ck10 rfl kb1 w1132 w1134 v35 ⟨Nat.le_of_ble_eq_true rfl, Nat.le_of_ble_eq_true rfl⟩ rfl hl.1 (rest := []) rfl (Nat.le_of_ble_eq_true rfl) dX10_propose_82 (mc := 0) (ms := 0) rfl rfl ⟨by show _ + 0 ≤ 0; omega, by show _ + 0 ≤ 0; omega⟩ (fun H locs hw => ?_)
  refine W.eq (g2 := F0 m 85 ls [.int z1]) rfl ?_
  refine lv_if_eq (tgt := 90) hx hb dX10_propose_85 (by decide) (fun c2 => ?_) (fun c2 => ?_)
  · have hf := ip hf c2
    refine lv_aload_n hx hb dX10_propose_90 rfl (lv_at hl 0 rfl) ?_
    refine lv_iload_n hx hb dX10_propose_91 rfl (lv_at hl 1 rfl) ?_
    refine lv_iload_n hx hb dX10_propose_92 rfl (lv_at hl 2 rfl) ?_
    refine lv_iload_n hx hb dX10_propose_93 rfl (lv_at hl 3 rfl) ?_
    refine lv_iload hx hb dX10_propose_94 (lv_at hl 4 rfl) ?_
    refine lv_aload_n hx hb dX10_propose_96 rfl (lv_at hl 0 rfl) ?_
    obtain ⟨z3, e3, hf⟩ := ob hf
    refine r_gI C hw e3 ck10 rfl (by decide) w991 dX10_propose_97 ?_
    refine lv_aload_n hx hb dX10_propose_100 rfl (lv_at hl 0 rfl) ?_
    obtain ⟨z4, e4, hf⟩ := ob hf
    refine r_gI C hw e4 ck10 rfl (by decide) w992 dX10_propose_101 ?_
    refine lv_aload_n hx hb dX10_propose_104 rfl (lv_at hl 0 rfl) ?_
    obtain ⟨z5, e5, hf⟩ := ob hf
    refine r_gI C hw e5 ck10 rfl (by decide) w993 dX10_propose_105 ?_
    refine lv_aload_n hx hb dX10_propose_108 rfl (lv_at hl 0 rfl) ?_
    obtain ⟨z6, e6, hf⟩ := ob hf
    refine r_gI C hw e6 ck10 rfl (by decide) w994 dX10_propose_109 ?_
    obtain ⟨kb7, hf⟩ := ig hf
    obtain ⟨z7, h7, e7, hf⟩ := ob2 hf
    refine r_callV C hw (mX10_adds e7) kXX10_adds ck10 rfl kb7 w1176 w1178 v45 ⟨Nat.le_of_ble_eq_true rfl, Nat.le_of_ble_eq_true rfl⟩ rfl hl.1 (rest := []) rfl (Nat.le_of_ble_eq_true rfl) dX10_propose_112 (mc := 0) (ms := 0) rfl rfl ⟨by show _ + 0 ≤ 0; omega, by show _ + 0 ≤ 0; omega⟩ (fun H locs hw => ?_)
    refine W.eq (g2 := F0 m 115 ls [.int z7]) rfl ?_
    refine lv_if_eq (tgt := 127) hx hb dX10_propose_115 (by decide) (fun c8 => ?_) (fun c8 => ?_)
    · have hf := ip hf c8
      refine lv_iconst (v := (0 : Int32)) hx hb dX10_propose_127 (by decide) ?_
      obtain ⟨rfl, rfl⟩ := sp hf
      exact r_iret C hw rfl rfl (by omega) (by omega) dX10_propose_128
    · have hf := ie hf c8
      refine lv_aload_n hx hb dX10_propose_118 rfl (lv_at hl 0 rfl) ?_
      obtain ⟨z9, e9, hf⟩ := ob hf
      refine r_gR C hw e9 ck10 rfl (by decide) w968 dX10_propose_119 ?_
      cases z9 with
      | none =>
        have hf := on_n hf
        cases hf
      | some a10 =>
        have hf := on_s hf
        refine W.eq (g2 := F0 m 122 ls [.ref a10]) rfl ?_
        refine lv_iload_n hx hb dX10_propose_122 rfl (lv_at hl 1 rfl) ?_
        obtain ⟨z11, e11, hf⟩ := ob hf
        refine r_iald C hw e11 dX10_propose_123 ?_
        refine lv_goto (tgt := 128) hx hb dX10_propose_124 (by decide) ?_
        obtain ⟨rfl, rfl⟩ := sp hf
        exact r_iret C hw rfl rfl (by omega) (by omega) dX10_propose_128
  · have hf := ie hf c2
    refine lv_iconst (v := (0 : Int32)) hx hb dX10_propose_88 (by decide) ?_
    obtain ⟨rfl, rfl⟩ := sp hf
    exact r_iret C hw rfl rfl (by omega) (by omega) dX10_propose_89
set_option maxRecDepth 100000 in
set_option maxHeartbeats 4000000 in
theorem bX10_propose_76 {D : va_G} {cy : Nat → ClassId} {s0 : Nat} {p : Program} {l : Launch} {e : Env} {s : State} {m : MethodId} {args : Array Value} {below : List Frame} {meth : Method} {c : Code} (C : CX D cy s0 p s m args meth c cX10_propose 5 RX10 (some .int)) (hn : meth.name = "propose") : ∀ (x0 : Nat) (x1 : Int32) (x2 : Int32) (x3 : Int32) (x4 : Int32) (y0 : Nat) (h : Hp) (r : Int32 × Hp), fX10_propose_76 x0 x1 x2 x3 x4 y0 h = some r → pX10_propose_76 D cy s0 p l e s m args below meth c r x0 x1 x2 x3 x4 y0 h := by
  intro x0 x1 x2 x3 x4 y0 h ⟨rv, rh⟩ hf H locs ls cells slots hc hs hw hl
  unfold fX10_propose_76 at hf
  have hx := C.1
  have hb := C.2.1
  refine lv_iconst (v := (1 : Int32)) hx hb dX10_propose_76 (by decide) ?_
  refine lv_goto (tgt := 81) hx hb dX10_propose_77 (by decide) ?_
  exact bX10_propose_81 C hn _ _ _ _ _ _ _ _ _ hf _ _ _ _ _ (by omega) (by omega) hw (lv_sub hl [0, 1, 2, 3, 4] rfl)
set_option maxRecDepth 100000 in
set_option maxHeartbeats 4000000 in
theorem bX10_propose_37 {D : va_G} {cy : Nat → ClassId} {s0 : Nat} {p : Program} {l : Launch} {e : Env} {s : State} {m : MethodId} {args : Array Value} {below : List Frame} {meth : Method} {c : Code} (C : CX D cy s0 p s m args meth c cX10_propose 5 RX10 (some .int)) (hn : meth.name = "propose") : ∀ (x0 : Nat) (x1 : Int32) (x2 : Int32) (x3 : Int32) (x4 : Int32) (y0 : Int32) (y1 : Nat) (h : Hp) (r : Int32 × Hp), fX10_propose_37 x0 x1 x2 x3 x4 y0 y1 h = some r → pX10_propose_37 D cy s0 p l e s m args below meth c r x0 x1 x2 x3 x4 y0 y1 h := by
  intro x0 x1 x2 x3 x4 y0 y1 h ⟨rv, rh⟩ hf H locs ls cells slots hc hs hw hl
  unfold fX10_propose_37 at hf
  have hx := C.1
  have hb := C.2.1
  refine lv_iconst (v := (2 : Int32)) hx hb dX10_propose_37 (by decide) ?_
  obtain ⟨kb1, hf⟩ := ig hf
  obtain ⟨z1, h1, e1, hf⟩ := ob2 hf
  refine r_callV C hw (mX10_bad e1) kXX10_bad ck10 rfl kb1 w1132 w1134 v35 ⟨Nat.le_of_ble_eq_true rfl, Nat.le_of_ble_eq_true rfl⟩ rfl hl.1 (rest := []) rfl (Nat.le_of_ble_eq_true rfl) dX10_propose_38 (mc := 0) (ms := 0) rfl rfl ⟨by show _ + 0 ≤ 0; omega, by show _ + 0 ≤ 0; omega⟩ (fun H locs hw => ?_)
  refine W.eq (g2 := F0 m 41 ls [.int z1]) rfl ?_
  refine lv_if_ne (tgt := 88) hx hb dX10_propose_41 (by decide) (fun c2 => ?_) (fun c2 => ?_)
  · have hf := ie hf c2
    refine lv_iconst (v := (0 : Int32)) hx hb dX10_propose_88 (by decide) ?_
    obtain ⟨rfl, rfl⟩ := sp hf
    exact r_iret C hw rfl rfl (by omega) (by omega) dX10_propose_89
  · have hf := ip hf c2
    refine lv_aload_n hx hb dX10_propose_44 rfl (lv_at hl 0 rfl) ?_
    refine lv_aload_n hx hb dX10_propose_45 rfl (lv_at hl 0 rfl) ?_
    obtain ⟨z3, e3, hf⟩ := ob hf
    refine r_gR C hw e3 ck10 rfl (by decide) w964 dX10_propose_46 ?_
    cases z3 with
    | none =>
      have hf := on_n hf
      cases hf
    | some a4 =>
      have hf := on_s hf
      refine W.eq (g2 := F0 m 49 ls [.ref a4, .ref x0]) rfl ?_
      refine lv_iload_n hx hb dX10_propose_49 rfl (lv_at hl 1 rfl) ?_
      obtain ⟨z5, e5, hf⟩ := ob hf
      refine r_zald C hw e5 dX10_propose_50 ?_
      refine lv_if_eq (tgt := 76) hx hb dX10_propose_51 (by decide) (fun c6 => ?_) (fun c6 => ?_)
      · have hf := ip hf c6
        exact bX10_propose_76 C hn _ _ _ _ _ _ _ _ hf _ _ _ _ _ (by omega) (by omega) hw (lv_sub hl [0, 1, 2, 3, 4] rfl)
      · have hf := ie hf c6
        refine lv_aload_n hx hb dX10_propose_54 rfl (lv_at hl 0 rfl) ?_
        obtain ⟨z7, e7, hf⟩ := ob hf
        refine r_gR C hw e7 ck10 rfl (by decide) w971 dX10_propose_55 ?_
        cases z7 with
        | none =>
          have hf := on_n hf
          cases hf
        | some a8 =>
          have hf := on_s hf
          refine W.eq (g2 := F0 m 58 ls [.ref a8, .ref x0]) rfl ?_
          refine lv_iload_n hx hb dX10_propose_58 rfl (lv_at hl 1 rfl) ?_
          obtain ⟨z9, e9, hf⟩ := ob hf
          refine r_iald C hw e9 dX10_propose_59 ?_
          refine lv_iconst (v := (2 : Int32)) hx hb dX10_propose_60 (by decide) ?_
          refine lv_icmp_ne (tgt := 76) hx hb dX10_propose_61 (by decide) (fun c10 => ?_) (fun c10 => ?_)
          · have hf := ie hf c10
            exact bX10_propose_76 C hn _ _ _ _ _ _ _ _ hf _ _ _ _ _ (by omega) (by omega) hw (lv_sub hl [0, 1, 2, 3, 4] rfl)
          · have hf := ip hf c10
            refine lv_aload_n hx hb dX10_propose_64 rfl (lv_at hl 0 rfl) ?_
            obtain ⟨z11, e11, hf⟩ := ob hf
            refine r_gR C hw e11 ck10 rfl (by decide) w968 dX10_propose_65 ?_
            cases z11 with
            | none =>
              have hf := on_n hf
              cases hf
            | some a12 =>
              have hf := on_s hf
              refine W.eq (g2 := F0 m 68 ls [.ref a12, .ref x0]) rfl ?_
              refine lv_iload_n hx hb dX10_propose_68 rfl (lv_at hl 1 rfl) ?_
              obtain ⟨z13, e13, hf⟩ := ob hf
              refine r_iald C hw e13 dX10_propose_69 ?_
              refine lv_sipush (v := (1200 : Int32)) hx hb dX10_propose_70 (by decide) ?_
              refine lv_icmp_ne (tgt := 80) hx hb dX10_propose_73 (by decide) (fun c14 => ?_) (fun c14 => ?_)
              · have hf := ie hf c14
                refine lv_iconst (v := (0 : Int32)) hx hb dX10_propose_80 (by decide) ?_
                exact bX10_propose_81 C hn _ _ _ _ _ _ _ _ _ hf _ _ _ _ _ (by omega) (by omega) hw (lv_sub hl [0, 1, 2, 3, 4] rfl)
              · have hf := ip hf c14
                exact bX10_propose_76 C hn _ _ _ _ _ _ _ _ hf _ _ _ _ _ (by omega) (by omega) hw (lv_sub hl [0, 1, 2, 3, 4] rfl)
set_option maxRecDepth 100000 in
set_option maxHeartbeats 4000000 in
theorem bX10_propose_13 {D : va_G} {cy : Nat → ClassId} {s0 : Nat} {p : Program} {l : Launch} {e : Env} {s : State} {m : MethodId} {args : Array Value} {below : List Frame} {meth : Method} {c : Code} (C : CX D cy s0 p s m args meth c cX10_propose 5 RX10 (some .int)) (hn : meth.name = "propose") : ∀ (x0 : Nat) (x1 : Int32) (x2 : Int32) (x3 : Int32) (x4 : Int32) (y0 : Int32) (y1 : Nat) (h : Hp) (r : Int32 × Hp), fX10_propose_13 x0 x1 x2 x3 x4 y0 y1 h = some r → pX10_propose_13 D cy s0 p l e s m args below meth c r x0 x1 x2 x3 x4 y0 y1 h := by
  intro x0 x1 x2 x3 x4 y0 y1 h ⟨rv, rh⟩ hf H locs ls cells slots hc hs hw hl
  unfold fX10_propose_13 at hf
  have hx := C.1
  have hb := C.2.1
  refine lv_iconst (v := (1 : Int32)) hx hb dX10_propose_13 (by decide) ?_
  obtain ⟨kb1, hf⟩ := ig hf
  obtain ⟨z1, h1, e1, hf⟩ := ob2 hf
  refine r_callV C hw (mX10_bad e1) kXX10_bad ck10 rfl kb1 w1132 w1134 v35 ⟨Nat.le_of_ble_eq_true rfl, Nat.le_of_ble_eq_true rfl⟩ rfl hl.1 (rest := []) rfl (Nat.le_of_ble_eq_true rfl) dX10_propose_14 (mc := 0) (ms := 0) rfl rfl ⟨by show _ + 0 ≤ 0; omega, by show _ + 0 ≤ 0; omega⟩ (fun H locs hw => ?_)
  refine W.eq (g2 := F0 m 17 ls [.int z1]) rfl ?_
  refine lv_if_ne (tgt := 88) hx hb dX10_propose_17 (by decide) (fun c2 => ?_) (fun c2 => ?_)
  · have hf := ie hf c2
    refine lv_iconst (v := (0 : Int32)) hx hb dX10_propose_88 (by decide) ?_
    obtain ⟨rfl, rfl⟩ := sp hf
    exact r_iret C hw rfl rfl (by omega) (by omega) dX10_propose_89
  · have hf := ip hf c2
    refine lv_aload_n hx hb dX10_propose_20 rfl (lv_at hl 0 rfl) ?_
    refine lv_aload_n hx hb dX10_propose_21 rfl (lv_at hl 0 rfl) ?_
    refine lv_iload_n hx hb dX10_propose_22 rfl (lv_at hl 2 rfl) ?_
    refine lv_iload_n hx hb dX10_propose_23 rfl (lv_at hl 3 rfl) ?_
    refine lv_iload hx hb dX10_propose_24 (lv_at hl 4 rfl) ?_
    obtain ⟨kb3, hf⟩ := ig hf
    obtain ⟨z3, h3, e3, hf⟩ := ob2 hf
    refine r_callV C hw (mX10_isRight e3) kXX10_isRight ck10 rfl kb3 w1214 w1216 v52 ⟨Nat.le_of_ble_eq_true rfl, Nat.le_of_ble_eq_true rfl⟩ rfl hl.1 (rest := [.ref x0]) rfl (Nat.le_of_ble_eq_true rfl) dX10_propose_26 (mc := 0) (ms := 0) rfl rfl ⟨by show _ + 0 ≤ 0; omega, by show _ + 0 ≤ 0; omega⟩ (fun H locs hw => ?_)
    refine W.eq (g2 := F0 m 29 ls [.int z3, .ref x0]) rfl ?_
    refine lv_if_ne (tgt := 36) hx hb dX10_propose_29 (by decide) (fun c4 => ?_) (fun c4 => ?_)
    · have hf := ie hf c4
      refine lv_iconst (v := (0 : Int32)) hx hb dX10_propose_36 (by decide) ?_
      exact bX10_propose_37 C hn _ _ _ _ _ _ _ _ _ hf _ _ _ _ _ (by omega) (by omega) hw (lv_sub hl [0, 1, 2, 3, 4] rfl)
    · have hf := ip hf c4
      refine lv_iconst (v := (1 : Int32)) hx hb dX10_propose_32 (by decide) ?_
      refine lv_goto (tgt := 37) hx hb dX10_propose_33 (by decide) ?_
      exact bX10_propose_37 C hn _ _ _ _ _ _ _ _ _ hf _ _ _ _ _ (by omega) (by omega) hw (lv_sub hl [0, 1, 2, 3, 4] rfl)
set_option maxRecDepth 100000 in
set_option maxHeartbeats 4000000 in
theorem bX10_propose {D : va_G} {cy : Nat → ClassId} {s0 : Nat} {p : Program} {l : Launch} {e : Env} {s : State} {m : MethodId} {args : Array Value} {below : List Frame} {meth : Method} {c : Code} (C : CX D cy s0 p s m args meth c cX10_propose 5 RX10 (some .int)) (hn : meth.name = "propose") : ∀ (x0 : Nat) (x1 : Int32) (x2 : Int32) (x3 : Int32) (x4 : Int32) (h : Hp) (r : Int32 × Hp), fX10_propose x0 x1 x2 x3 x4 h = some r → pX10_propose D cy s0 p l e s m args below meth c r x0 x1 x2 x3 x4 h := by
  intro x0 x1 x2 x3 x4 h ⟨rv, rh⟩ hf H locs ls cells slots hc hs hw hl
  unfold fX10_propose at hf
  have hx := C.1
  have hb := C.2.1
  refine lv_aload_n hx hb dX10_propose_0 rfl (lv_at hl 0 rfl) ?_
  refine lv_iload_n hx hb dX10_propose_1 rfl (lv_at hl 1 rfl) ?_
  obtain ⟨z1, h1, e1, hf⟩ := ob2 hf
  refine r_callS C hw (mX10_isNode e1) kXX10_isNode w1129 w1130 ⟨Nat.le_of_ble_eq_true rfl, Nat.le_of_ble_eq_true rfl⟩ rfl hl.1 (rest := [.ref x0]) rfl (Nat.le_of_ble_eq_true rfl) dX10_propose_2 (mc := 0) (ms := 0) rfl rfl ⟨by show _ + 0 ≤ 0; omega, by show _ + 0 ≤ 0; omega⟩ (fun H locs hw => ?_)
  refine W.eq (g2 := F0 m 5 ls [.int z1, .ref x0]) rfl ?_
  refine lv_if_ne (tgt := 12) hx hb dX10_propose_5 (by decide) (fun c2 => ?_) (fun c2 => ?_)
  · have hf := ie hf c2
    refine lv_iconst (v := (0 : Int32)) hx hb dX10_propose_12 (by decide) ?_
    exact bX10_propose_13 C hn _ _ _ _ _ _ _ _ _ hf _ _ _ _ _ (by omega) (by omega) hw (lv_sub hl [0, 1, 2, 3, 4] rfl)
  · have hf := ip hf c2
    refine lv_iconst (v := (1 : Int32)) hx hb dX10_propose_8 (by decide) ?_
    refine lv_goto (tgt := 13) hx hb dX10_propose_9 (by decide) ?_
    exact bX10_propose_13 C hn _ _ _ _ _ _ _ _ _ hf _ _ _ _ _ (by omega) (by omega) hw (lv_sub hl [0, 1, 2, 3, 4] rfl)
theorem kXX10_propose : MK yX10_propose cX10_propose 5 (some .int) 4 := ⟨w1213, w8, by decide +kernel⟩
theorem mX10_propose {D : va_G} {cy : Nat → ClassId} {s0 : Nat} {l : Launch} {x0 : Nat} {x1 : Int32} {x2 : Int32} {x3 : Int32} {x4 : Int32} {h : Hp} {v : Int32} {h1 : Hp} (hf : fX10_propose x0 x1 x2 x3 x4 h = some (v, h1)) : MT D cy s0 l yX10_propose cX10_propose 5 (some .int) rX10_propose [.ref x0, .int x1, .int x2, .int x3, .int x4] h (some (.int v)) h1 := by
  refine MT.of (by decide +kernel) (Nat.le_of_ble_eq_true rfl) ?_
  intro p e s m below meth c H locs ls C hn hw hl
  exact bX10_propose C hn _ _ _ _ _ _ _ hf _ _ _ _ _ (Nat.le_of_ble_eq_true rfl) (Nat.le_of_ble_eq_true rfl) hw hl
abbrev rX10_result : Room := { frames := 5, cells := 0, slots := 0, locals := 122 }
abbrev pX10_result_55 (D : va_G) (cy : Nat → ClassId) (s0 : Nat) (p : Program) (l : Launch) (e : Env) (s : State) (m : MethodId) (args : Array Value) (below : List Frame) (meth : Method) (c : Code) (r : Int32 × Hp) (x0 : Nat) (x1 : Int32) (x2 : Int32) (y0 : Int32) (y1 : Nat) (h : Hp) : Prop := ∀ (H : Heap) (locs : List Loc) (ls : Array Slot) (cells slots : Nat), cells + (0) ≤ 0 → slots + (0) ≤ 0 → WS D cy s0 s h H locs → lv_has ls 3 [(0, .ref x0), (1, .int x1), (2, .int x2)] → W p l e rX10_result s m args below meth c H locs cells slots (MQ below (QQ D cy s0 (some (.int r.1)) r.2) args s 0 0 (fun q => s0 ≤ q)) (F0 m 55 ls [.int y0, .ref y1])
abbrev pX10_result_50 (D : va_G) (cy : Nat → ClassId) (s0 : Nat) (p : Program) (l : Launch) (e : Env) (s : State) (m : MethodId) (args : Array Value) (below : List Frame) (meth : Method) (c : Code) (r : Int32 × Hp) (x0 : Nat) (x1 : Int32) (x2 : Int32) (y0 : Nat) (h : Hp) : Prop := ∀ (H : Heap) (locs : List Loc) (ls : Array Slot) (cells slots : Nat), cells + (0) ≤ 0 → slots + (0) ≤ 0 → WS D cy s0 s h H locs → lv_has ls 3 [(0, .ref x0), (1, .int x1), (2, .int x2)] → W p l e rX10_result s m args below meth c H locs cells slots (MQ below (QQ D cy s0 (some (.int r.1)) r.2) args s 0 0 (fun q => s0 ≤ q)) (F0 m 50 ls [.ref y0])
abbrev pX10_result_13 (D : va_G) (cy : Nat → ClassId) (s0 : Nat) (p : Program) (l : Launch) (e : Env) (s : State) (m : MethodId) (args : Array Value) (below : List Frame) (meth : Method) (c : Code) (r : Int32 × Hp) (x0 : Nat) (x1 : Int32) (x2 : Int32) (y0 : Int32) (y1 : Nat) (h : Hp) : Prop := ∀ (H : Heap) (locs : List Loc) (ls : Array Slot) (cells slots : Nat), cells + (0) ≤ 0 → slots + (0) ≤ 0 → WS D cy s0 s h H locs → lv_has ls 3 [(0, .ref x0), (1, .int x1), (2, .int x2)] → W p l e rX10_result s m args below meth c H locs cells slots (MQ below (QQ D cy s0 (some (.int r.1)) r.2) args s 0 0 (fun q => s0 ≤ q)) (F0 m 13 ls [.int y0, .ref y1])
abbrev pX10_result (D : va_G) (cy : Nat → ClassId) (s0 : Nat) (p : Program) (l : Launch) (e : Env) (s : State) (m : MethodId) (args : Array Value) (below : List Frame) (meth : Method) (c : Code) (r : Int32 × Hp) (x0 : Nat) (x1 : Int32) (x2 : Int32) (h : Hp) : Prop := ∀ (H : Heap) (locs : List Loc) (ls : Array Slot) (cells slots : Nat), cells + (0) ≤ 0 → slots + (0) ≤ 0 → WS D cy s0 s h H locs → lv_has ls 3 [(0, .ref x0), (1, .int x1), (2, .int x2)] → W p l e rX10_result s m args below meth c H locs cells slots (MQ below (QQ D cy s0 (some (.int r.1)) r.2) args s 0 0 (fun q => s0 ≤ q)) (F0 m 0 ls [])
set_option maxRecDepth 100000 in
set_option maxHeartbeats 4000000 in
theorem bX10_result_55 {D : va_G} {cy : Nat → ClassId} {s0 : Nat} {p : Program} {l : Launch} {e : Env} {s : State} {m : MethodId} {args : Array Value} {below : List Frame} {meth : Method} {c : Code} (C : CX D cy s0 p s m args meth c cX10_result 3 RX10 (some .int)) (hn : meth.name = "result") : ∀ (x0 : Nat) (x1 : Int32) (x2 : Int32) (y0 : Int32) (y1 : Nat) (h : Hp) (r : Int32 × Hp), fX10_result_55 x0 x1 x2 y0 y1 h = some r → pX10_result_55 D cy s0 p l e s m args below meth c r x0 x1 x2 y0 y1 h := by
  intro x0 x1 x2 y0 y1 h ⟨rv, rh⟩ hf H locs ls cells slots hc hs hw hl
  unfold fX10_result_55 at hf
  have hx := C.1
  have hb := C.2.1
  refine lv_iconst (v := (2 : Int32)) hx hb dX10_result_55 (by decide) ?_
  obtain ⟨kb1, hf⟩ := ig hf
  obtain ⟨z1, h1, e1, hf⟩ := ob2 hf
  refine r_callV C hw (mX10_bad e1) kXX10_bad ck10 rfl kb1 w1132 w1134 v35 ⟨Nat.le_of_ble_eq_true rfl, Nat.le_of_ble_eq_true rfl⟩ rfl hl.1 (rest := []) rfl (Nat.le_of_ble_eq_true rfl) dX10_result_56 (mc := 0) (ms := 0) rfl rfl ⟨by show _ + 0 ≤ 0; omega, by show _ + 0 ≤ 0; omega⟩ (fun H locs hw => ?_)
  refine W.eq (g2 := F0 m 59 ls [.int z1]) rfl ?_
  refine lv_if_eq (tgt := 64) hx hb dX10_result_59 (by decide) (fun c2 => ?_) (fun c2 => ?_)
  · have hf := ip hf c2
    refine lv_aload_n hx hb dX10_result_64 rfl (lv_at hl 0 rfl) ?_
    refine lv_iload_n hx hb dX10_result_65 rfl (lv_at hl 1 rfl) ?_
    obtain ⟨kb3, hf⟩ := ig hf
    obtain ⟨z3, h3, e3, hf⟩ := ob2 hf
    refine r_callV C hw (mX10_work e3) kXX10_work ck10 rfl kb3 w1245 w1247 v53 ⟨Nat.le_of_ble_eq_true rfl, Nat.le_of_ble_eq_true rfl⟩ rfl hl.1 (rest := []) rfl (Nat.le_of_ble_eq_true rfl) dX10_result_66 (mc := 0) (ms := 0) rfl rfl ⟨by show _ + 0 ≤ 0; omega, by show _ + 0 ≤ 0; omega⟩ (fun H locs hw => ?_)
    refine W.eq (g2 := F0 m 69 ls []) rfl ?_
    refine lv_aload_n hx hb dX10_result_69 rfl (lv_at hl 0 rfl) ?_
    obtain ⟨z4, e4, hf⟩ := ob hf
    refine r_gR C hw e4 ck10 rfl (by decide) w1011 dX10_result_70 ?_
    cases z4 with
    | none =>
      have hf := on_n hf
      cases hf
    | some a5 =>
      have hf := on_s hf
      refine W.eq (g2 := F0 m 73 ls [.ref a5]) rfl ?_
      refine lv_iload_n hx hb dX10_result_73 rfl (lv_at hl 2 rfl) ?_
      obtain ⟨z6, e6, hf⟩ := ob hf
      refine r_iald C hw e6 dX10_result_74 ?_
      obtain ⟨rfl, rfl⟩ := sp hf
      exact r_iret C hw rfl rfl (by omega) (by omega) dX10_result_75
  · have hf := ie hf c2
    refine lv_iconst (v := (0 : Int32)) hx hb dX10_result_62 (by decide) ?_
    obtain ⟨rfl, rfl⟩ := sp hf
    exact r_iret C hw rfl rfl (by omega) (by omega) dX10_result_63
set_option maxRecDepth 100000 in
set_option maxHeartbeats 4000000 in
theorem bX10_result_50 {D : va_G} {cy : Nat → ClassId} {s0 : Nat} {p : Program} {l : Launch} {e : Env} {s : State} {m : MethodId} {args : Array Value} {below : List Frame} {meth : Method} {c : Code} (C : CX D cy s0 p s m args meth c cX10_result 3 RX10 (some .int)) (hn : meth.name = "result") : ∀ (x0 : Nat) (x1 : Int32) (x2 : Int32) (y0 : Nat) (h : Hp) (r : Int32 × Hp), fX10_result_50 x0 x1 x2 y0 h = some r → pX10_result_50 D cy s0 p l e s m args below meth c r x0 x1 x2 y0 h := by
  intro x0 x1 x2 y0 h ⟨rv, rh⟩ hf H locs ls cells slots hc hs hw hl
  unfold fX10_result_50 at hf
  have hx := C.1
  have hb := C.2.1
  refine lv_iconst (v := (1 : Int32)) hx hb dX10_result_50 (by decide) ?_
  refine lv_goto (tgt := 55) hx hb dX10_result_51 (by decide) ?_
  exact bX10_result_55 C hn _ _ _ _ _ _ _ hf _ _ _ _ _ (by omega) (by omega) hw (lv_sub hl [0, 1, 2] rfl)
set_option maxRecDepth 100000 in
set_option maxHeartbeats 4000000 in
theorem bX10_result_13 {D : va_G} {cy : Nat → ClassId} {s0 : Nat} {p : Program} {l : Launch} {e : Env} {s : State} {m : MethodId} {args : Array Value} {below : List Frame} {meth : Method} {c : Code} (C : CX D cy s0 p s m args meth c cX10_result 3 RX10 (some .int)) (hn : meth.name = "result") : ∀ (x0 : Nat) (x1 : Int32) (x2 : Int32) (y0 : Int32) (y1 : Nat) (h : Hp) (r : Int32 × Hp), fX10_result_13 x0 x1 x2 y0 y1 h = some r → pX10_result_13 D cy s0 p l e s m args below meth c r x0 x1 x2 y0 y1 h := by
  intro x0 x1 x2 y0 y1 h ⟨rv, rh⟩ hf H locs ls cells slots hc hs hw hl
  unfold fX10_result_13 at hf
  have hx := C.1
  have hb := C.2.1
  refine lv_iconst (v := (1 : Int32)) hx hb dX10_result_13 (by decide) ?_
  obtain ⟨kb1, hf⟩ := ig hf
  obtain ⟨z1, h1, e1, hf⟩ := ob2 hf
  refine r_callV C hw (mX10_bad e1) kXX10_bad ck10 rfl kb1 w1132 w1134 v35 ⟨Nat.le_of_ble_eq_true rfl, Nat.le_of_ble_eq_true rfl⟩ rfl hl.1 (rest := []) rfl (Nat.le_of_ble_eq_true rfl) dX10_result_14 (mc := 0) (ms := 0) rfl rfl ⟨by show _ + 0 ≤ 0; omega, by show _ + 0 ≤ 0; omega⟩ (fun H locs hw => ?_)
  refine W.eq (g2 := F0 m 17 ls [.int z1]) rfl ?_
  refine lv_if_ne (tgt := 62) hx hb dX10_result_17 (by decide) (fun c2 => ?_) (fun c2 => ?_)
  · have hf := ie hf c2
    refine lv_iconst (v := (0 : Int32)) hx hb dX10_result_62 (by decide) ?_
    obtain ⟨rfl, rfl⟩ := sp hf
    exact r_iret C hw rfl rfl (by omega) (by omega) dX10_result_63
  · have hf := ip hf c2
    refine lv_aload_n hx hb dX10_result_20 rfl (lv_at hl 0 rfl) ?_
    refine lv_aload_n hx hb dX10_result_21 rfl (lv_at hl 0 rfl) ?_
    obtain ⟨z3, e3, hf⟩ := ob hf
    refine r_gR C hw e3 ck10 rfl (by decide) w964 dX10_result_22 ?_
    cases z3 with
    | none =>
      have hf := on_n hf
      cases hf
    | some a4 =>
      have hf := on_s hf
      refine W.eq (g2 := F0 m 25 ls [.ref a4, .ref x0]) rfl ?_
      refine lv_iload_n hx hb dX10_result_25 rfl (lv_at hl 1 rfl) ?_
      obtain ⟨z5, e5, hf⟩ := ob hf
      refine r_zald C hw e5 dX10_result_26 ?_
      refine lv_if_eq (tgt := 50) hx hb dX10_result_27 (by decide) (fun c6 => ?_) (fun c6 => ?_)
      · have hf := ip hf c6
        exact bX10_result_50 C hn _ _ _ _ _ _ hf _ _ _ _ _ (by omega) (by omega) hw (lv_sub hl [0, 1, 2] rfl)
      · have hf := ie hf c6
        refine lv_iload_n hx hb dX10_result_30 rfl (lv_at hl 2 rfl) ?_
        refine lv_aload_n hx hb dX10_result_31 rfl (lv_at hl 0 rfl) ?_
        obtain ⟨z7, e7, hf⟩ := ob hf
        refine r_gR C hw e7 ck10 rfl (by decide) w970 dX10_result_32 ?_
        cases z7 with
        | none =>
          have hf := on_n hf
          cases hf
        | some a8 =>
          have hf := on_s hf
          refine W.eq (g2 := F0 m 35 ls [.ref a8, .int x2, .ref x0]) rfl ?_
          refine lv_iload_n hx hb dX10_result_35 rfl (lv_at hl 1 rfl) ?_
          obtain ⟨z9, e9, hf⟩ := ob hf
          refine r_iald C hw e9 dX10_result_36 ?_
          refine lv_icmp_le (tgt := 50) hx hb dX10_result_37 (by decide) (fun c10 => ?_) (fun c10 => ?_)
          · have hf := ip hf c10
            exact bX10_result_50 C hn _ _ _ _ _ _ hf _ _ _ _ _ (by omega) (by omega) hw (lv_sub hl [0, 1, 2] rfl)
          · have hf := ie hf c10
            refine lv_iload_n hx hb dX10_result_40 rfl (lv_at hl 2 rfl) ?_
            refine lv_aload_n hx hb dX10_result_41 rfl (lv_at hl 0 rfl) ?_
            obtain ⟨z11, e11, hf⟩ := ob hf
            refine r_gR C hw e11 ck10 rfl (by decide) w969 dX10_result_42 ?_
            cases z11 with
            | none =>
              have hf := on_n hf
              cases hf
            | some a12 =>
              have hf := on_s hf
              refine W.eq (g2 := F0 m 45 ls [.ref a12, .int x2, .ref x0]) rfl ?_
              refine lv_iload_n hx hb dX10_result_45 rfl (lv_at hl 1 rfl) ?_
              obtain ⟨z13, e13, hf⟩ := ob hf
              refine r_iald C hw e13 dX10_result_46 ?_
              refine lv_icmp_le (tgt := 54) hx hb dX10_result_47 (by decide) (fun c14 => ?_) (fun c14 => ?_)
              · have hf := ip hf c14
                refine lv_iconst (v := (0 : Int32)) hx hb dX10_result_54 (by decide) ?_
                exact bX10_result_55 C hn _ _ _ _ _ _ _ hf _ _ _ _ _ (by omega) (by omega) hw (lv_sub hl [0, 1, 2] rfl)
              · have hf := ie hf c14
                exact bX10_result_50 C hn _ _ _ _ _ _ hf _ _ _ _ _ (by omega) (by omega) hw (lv_sub hl [0, 1, 2] rfl)
set_option maxRecDepth 100000 in
set_option maxHeartbeats 4000000 in
theorem bX10_result {D : va_G} {cy : Nat → ClassId} {s0 : Nat} {p : Program} {l : Launch} {e : Env} {s : State} {m : MethodId} {args : Array Value} {below : List Frame} {meth : Method} {c : Code} (C : CX D cy s0 p s m args meth c cX10_result 3 RX10 (some .int)) (hn : meth.name = "result") : ∀ (x0 : Nat) (x1 : Int32) (x2 : Int32) (h : Hp) (r : Int32 × Hp), fX10_result x0 x1 x2 h = some r → pX10_result D cy s0 p l e s m args below meth c r x0 x1 x2 h := by
  intro x0 x1 x2 h ⟨rv, rh⟩ hf H locs ls cells slots hc hs hw hl
  unfold fX10_result at hf
  have hx := C.1
  have hb := C.2.1
  refine lv_aload_n hx hb dX10_result_0 rfl (lv_at hl 0 rfl) ?_
  refine lv_iload_n hx hb dX10_result_1 rfl (lv_at hl 1 rfl) ?_
  obtain ⟨z1, h1, e1, hf⟩ := ob2 hf
  refine r_callS C hw (mX10_isNode e1) kXX10_isNode w1129 w1130 ⟨Nat.le_of_ble_eq_true rfl, Nat.le_of_ble_eq_true rfl⟩ rfl hl.1 (rest := [.ref x0]) rfl (Nat.le_of_ble_eq_true rfl) dX10_result_2 (mc := 0) (ms := 0) rfl rfl ⟨by show _ + 0 ≤ 0; omega, by show _ + 0 ≤ 0; omega⟩ (fun H locs hw => ?_)
  refine W.eq (g2 := F0 m 5 ls [.int z1, .ref x0]) rfl ?_
  refine lv_if_ne (tgt := 12) hx hb dX10_result_5 (by decide) (fun c2 => ?_) (fun c2 => ?_)
  · have hf := ie hf c2
    refine lv_iconst (v := (0 : Int32)) hx hb dX10_result_12 (by decide) ?_
    exact bX10_result_13 C hn _ _ _ _ _ _ _ hf _ _ _ _ _ (by omega) (by omega) hw (lv_sub hl [0, 1, 2] rfl)
  · have hf := ip hf c2
    refine lv_iconst (v := (1 : Int32)) hx hb dX10_result_8 (by decide) ?_
    refine lv_goto (tgt := 13) hx hb dX10_result_9 (by decide) ?_
    exact bX10_result_13 C hn _ _ _ _ _ _ _ hf _ _ _ _ _ (by omega) (by omega) hw (lv_sub hl [0, 1, 2] rfl)
theorem kXX10_result : MK yX10_result cX10_result 3 (some .int) 2 := ⟨w1244, w8, by decide +kernel⟩
theorem mX10_result {D : va_G} {cy : Nat → ClassId} {s0 : Nat} {l : Launch} {x0 : Nat} {x1 : Int32} {x2 : Int32} {h : Hp} {v : Int32} {h1 : Hp} (hf : fX10_result x0 x1 x2 h = some (v, h1)) : MT D cy s0 l yX10_result cX10_result 3 (some .int) rX10_result [.ref x0, .int x1, .int x2] h (some (.int v)) h1 := by
  refine MT.of (by decide +kernel) (Nat.le_of_ble_eq_true rfl) ?_
  intro p e s m below meth c H locs ls C hn hw hl
  exact bX10_result C hn _ _ _ _ _ hf _ _ _ _ _ (Nat.le_of_ble_eq_true rfl) (Nat.le_of_ble_eq_true rfl) hw hl
abbrev rX10_shrink : Room := { frames := 2, cells := 0, slots := 0, locals := 42 }
abbrev pX10_shrink_50 (D : va_G) (cy : Nat → ClassId) (s0 : Nat) (p : Program) (l : Launch) (e : Env) (s : State) (m : MethodId) (args : Array Value) (below : List Frame) (meth : Method) (c : Code) (r : Int32 × Hp) (x0 : Nat) (x1 : Int32) (y0 : Int32) (y1 : Nat) (h : Hp) : Prop := ∀ (H : Heap) (locs : List Loc) (ls : Array Slot) (cells slots : Nat), cells + (0) ≤ 0 → slots + (0) ≤ 0 → WS D cy s0 s h H locs → lv_has ls 2 [(0, .ref x0), (1, .int x1)] → W p l e rX10_shrink s m args below meth c H locs cells slots (MQ below (QQ D cy s0 (some (.int r.1)) r.2) args s 0 0 (fun q => s0 ≤ q)) (F0 m 50 ls [.int y0, .ref y1])
abbrev pX10_shrink_45 (D : va_G) (cy : Nat → ClassId) (s0 : Nat) (p : Program) (l : Launch) (e : Env) (s : State) (m : MethodId) (args : Array Value) (below : List Frame) (meth : Method) (c : Code) (r : Int32 × Hp) (x0 : Nat) (x1 : Int32) (y0 : Nat) (h : Hp) : Prop := ∀ (H : Heap) (locs : List Loc) (ls : Array Slot) (cells slots : Nat), cells + (0) ≤ 0 → slots + (0) ≤ 0 → WS D cy s0 s h H locs → lv_has ls 2 [(0, .ref x0), (1, .int x1)] → W p l e rX10_shrink s m args below meth c H locs cells slots (MQ below (QQ D cy s0 (some (.int r.1)) r.2) args s 0 0 (fun q => s0 ≤ q)) (F0 m 45 ls [.ref y0])
abbrev pX10_shrink_13 (D : va_G) (cy : Nat → ClassId) (s0 : Nat) (p : Program) (l : Launch) (e : Env) (s : State) (m : MethodId) (args : Array Value) (below : List Frame) (meth : Method) (c : Code) (r : Int32 × Hp) (x0 : Nat) (x1 : Int32) (y0 : Int32) (y1 : Nat) (h : Hp) : Prop := ∀ (H : Heap) (locs : List Loc) (ls : Array Slot) (cells slots : Nat), cells + (0) ≤ 0 → slots + (0) ≤ 0 → WS D cy s0 s h H locs → lv_has ls 2 [(0, .ref x0), (1, .int x1)] → W p l e rX10_shrink s m args below meth c H locs cells slots (MQ below (QQ D cy s0 (some (.int r.1)) r.2) args s 0 0 (fun q => s0 ≤ q)) (F0 m 13 ls [.int y0, .ref y1])
abbrev pX10_shrink (D : va_G) (cy : Nat → ClassId) (s0 : Nat) (p : Program) (l : Launch) (e : Env) (s : State) (m : MethodId) (args : Array Value) (below : List Frame) (meth : Method) (c : Code) (r : Int32 × Hp) (x0 : Nat) (x1 : Int32) (h : Hp) : Prop := ∀ (H : Heap) (locs : List Loc) (ls : Array Slot) (cells slots : Nat), cells + (0) ≤ 0 → slots + (0) ≤ 0 → WS D cy s0 s h H locs → lv_has ls 2 [(0, .ref x0), (1, .int x1)] → W p l e rX10_shrink s m args below meth c H locs cells slots (MQ below (QQ D cy s0 (some (.int r.1)) r.2) args s 0 0 (fun q => s0 ≤ q)) (F0 m 0 ls [])
set_option maxRecDepth 100000 in
set_option maxHeartbeats 4000000 in
theorem bX10_shrink_50 {D : va_G} {cy : Nat → ClassId} {s0 : Nat} {p : Program} {l : Launch} {e : Env} {s : State} {m : MethodId} {args : Array Value} {below : List Frame} {meth : Method} {c : Code} (C : CX D cy s0 p s m args meth c cX10_shrink 2 RX10 (some .int)) (hn : meth.name = "shrink") : ∀ (x0 : Nat) (x1 : Int32) (y0 : Int32) (y1 : Nat) (h : Hp) (r : Int32 × Hp), fX10_shrink_50 x0 x1 y0 y1 h = some r → pX10_shrink_50 D cy s0 p l e s m args below meth c r x0 x1 y0 y1 h := by
  intro x0 x1 y0 y1 h ⟨rv, rh⟩ hf H locs ls cells slots hc hs hw hl
  unfold fX10_shrink_50 at hf
  have hx := C.1
  have hb := C.2.1
  refine lv_iconst (v := (2 : Int32)) hx hb dX10_shrink_50 (by decide) ?_
  obtain ⟨kb1, hf⟩ := ig hf
  obtain ⟨z1, h1, e1, hf⟩ := ob2 hf
  refine r_callV C hw (mX10_bad e1) kXX10_bad ck10 rfl kb1 w1132 w1134 v35 ⟨Nat.le_of_ble_eq_true rfl, Nat.le_of_ble_eq_true rfl⟩ rfl hl.1 (rest := []) rfl (Nat.le_of_ble_eq_true rfl) dX10_shrink_51 (mc := 0) (ms := 0) rfl rfl ⟨by show _ + 0 ≤ 0; omega, by show _ + 0 ≤ 0; omega⟩ (fun H locs hw => ?_)
  refine W.eq (g2 := F0 m 54 ls [.int z1]) rfl ?_
  refine lv_if_eq (tgt := 59) hx hb dX10_shrink_54 (by decide) (fun c2 => ?_) (fun c2 => ?_)
  · have hf := ip hf c2
    refine lv_aload_n hx hb dX10_shrink_59 rfl (lv_at hl 0 rfl) ?_
    refine lv_iload_n hx hb dX10_shrink_60 rfl (lv_at hl 1 rfl) ?_
    obtain ⟨kb3, hf⟩ := ig hf
    obtain ⟨z3, h3, e3, hf⟩ := ob2 hf
    refine r_callV C hw (mX10_record e3) kXX10_record ck10 rfl kb3 w1136 w1138 v36 ⟨Nat.le_of_ble_eq_true rfl, Nat.le_of_ble_eq_true rfl⟩ rfl hl.1 (rest := []) rfl (Nat.le_of_ble_eq_true rfl) dX10_shrink_61 (mc := 0) (ms := 0) rfl rfl ⟨by show _ + 0 ≤ 0; omega, by show _ + 0 ≤ 0; omega⟩ (fun H locs hw => ?_)
    refine W.eq (g2 := F0 m 64 ls [.int z3]) rfl ?_
    refine lv_if_eq (tgt := 79) hx hb dX10_shrink_64 (by decide) (fun c4 => ?_) (fun c4 => ?_)
    · have hf := ip hf c4
      refine lv_aload_n hx hb dX10_shrink_79 rfl (lv_at hl 0 rfl) ?_
      obtain ⟨z5, e5, hf⟩ := ob hf
      refine r_gR C hw e5 ck10 rfl (by decide) w967 dX10_shrink_80 ?_
      cases z5 with
      | none =>
        have hf := on_n hf
        cases hf
      | some a6 =>
        have hf := on_s hf
        refine W.eq (g2 := F0 m 83 ls [.ref a6]) rfl ?_
        refine lv_iload_n hx hb dX10_shrink_83 rfl (lv_at hl 1 rfl) ?_
        obtain ⟨z7, e7, hf⟩ := ob hf
        refine r_iald C hw e7 dX10_shrink_84 ?_
        obtain ⟨rfl, rfl⟩ := sp hf
        exact r_iret C hw rfl rfl (by omega) (by omega) dX10_shrink_85
    · have hf := ie hf c4
      refine lv_aload_n hx hb dX10_shrink_67 rfl (lv_at hl 0 rfl) ?_
      obtain ⟨z8, e8, hf⟩ := ob hf
      refine r_gR C hw e8 ck10 rfl (by decide) w967 dX10_shrink_68 ?_
      cases z8 with
      | none =>
        have hf := on_n hf
        cases hf
      | some a9 =>
        have hf := on_s hf
        refine W.eq (g2 := F0 m 71 ls [.ref a9]) rfl ?_
        refine lv_iload_n hx hb dX10_shrink_71 rfl (lv_at hl 1 rfl) ?_
        refine lv_aload_n hx hb dX10_shrink_72 rfl (lv_at hl 0 rfl) ?_
        obtain ⟨z10, e10, hf⟩ := ob hf
        refine r_gR C hw e10 ck10 rfl (by decide) w969 dX10_shrink_73 ?_
        cases z10 with
        | none =>
          have hf := on_n hf
          cases hf
        | some a11 =>
          have hf := on_s hf
          refine W.eq (g2 := F0 m 76 ls [.ref a11, .int x1, .ref a9]) rfl ?_
          refine lv_iload_n hx hb dX10_shrink_76 rfl (lv_at hl 1 rfl) ?_
          obtain ⟨z12, e12, hf⟩ := ob hf
          refine r_iald C hw e12 dX10_shrink_77 ?_
          obtain ⟨h13, e13, hf⟩ := ob hf
          refine r_iast C hw e13 dX10_shrink_78 (fun H locs hw => ?_)
          refine lv_aload_n hx hb dX10_shrink_79 rfl (lv_at hl 0 rfl) ?_
          obtain ⟨z14, e14, hf⟩ := ob hf
          refine r_gR C hw e14 ck10 rfl (by decide) w967 dX10_shrink_80 ?_
          cases z14 with
          | none =>
            have hf := on_n hf
            cases hf
          | some a15 =>
            have hf := on_s hf
            refine W.eq (g2 := F0 m 83 ls [.ref a15]) rfl ?_
            refine lv_iload_n hx hb dX10_shrink_83 rfl (lv_at hl 1 rfl) ?_
            obtain ⟨z16, e16, hf⟩ := ob hf
            refine r_iald C hw e16 dX10_shrink_84 ?_
            obtain ⟨rfl, rfl⟩ := sp hf
            exact r_iret C hw rfl rfl (by omega) (by omega) dX10_shrink_85
  · have hf := ie hf c2
    refine lv_iconst (v := (0 : Int32)) hx hb dX10_shrink_57 (by decide) ?_
    obtain ⟨rfl, rfl⟩ := sp hf
    exact r_iret C hw rfl rfl (by omega) (by omega) dX10_shrink_58
set_option maxRecDepth 100000 in
set_option maxHeartbeats 4000000 in
theorem bX10_shrink_45 {D : va_G} {cy : Nat → ClassId} {s0 : Nat} {p : Program} {l : Launch} {e : Env} {s : State} {m : MethodId} {args : Array Value} {below : List Frame} {meth : Method} {c : Code} (C : CX D cy s0 p s m args meth c cX10_shrink 2 RX10 (some .int)) (hn : meth.name = "shrink") : ∀ (x0 : Nat) (x1 : Int32) (y0 : Nat) (h : Hp) (r : Int32 × Hp), fX10_shrink_45 x0 x1 y0 h = some r → pX10_shrink_45 D cy s0 p l e s m args below meth c r x0 x1 y0 h := by
  intro x0 x1 y0 h ⟨rv, rh⟩ hf H locs ls cells slots hc hs hw hl
  unfold fX10_shrink_45 at hf
  have hx := C.1
  have hb := C.2.1
  refine lv_iconst (v := (1 : Int32)) hx hb dX10_shrink_45 (by decide) ?_
  refine lv_goto (tgt := 50) hx hb dX10_shrink_46 (by decide) ?_
  exact bX10_shrink_50 C hn _ _ _ _ _ _ hf _ _ _ _ _ (by omega) (by omega) hw (lv_sub hl [0, 1] rfl)
set_option maxRecDepth 100000 in
set_option maxHeartbeats 4000000 in
theorem bX10_shrink_13 {D : va_G} {cy : Nat → ClassId} {s0 : Nat} {p : Program} {l : Launch} {e : Env} {s : State} {m : MethodId} {args : Array Value} {below : List Frame} {meth : Method} {c : Code} (C : CX D cy s0 p s m args meth c cX10_shrink 2 RX10 (some .int)) (hn : meth.name = "shrink") : ∀ (x0 : Nat) (x1 : Int32) (y0 : Int32) (y1 : Nat) (h : Hp) (r : Int32 × Hp), fX10_shrink_13 x0 x1 y0 y1 h = some r → pX10_shrink_13 D cy s0 p l e s m args below meth c r x0 x1 y0 y1 h := by
  intro x0 x1 y0 y1 h ⟨rv, rh⟩ hf H locs ls cells slots hc hs hw hl
  unfold fX10_shrink_13 at hf
  have hx := C.1
  have hb := C.2.1
  refine lv_iconst (v := (1 : Int32)) hx hb dX10_shrink_13 (by decide) ?_
  obtain ⟨kb1, hf⟩ := ig hf
  obtain ⟨z1, h1, e1, hf⟩ := ob2 hf
  refine r_callV C hw (mX10_bad e1) kXX10_bad ck10 rfl kb1 w1132 w1134 v35 ⟨Nat.le_of_ble_eq_true rfl, Nat.le_of_ble_eq_true rfl⟩ rfl hl.1 (rest := []) rfl (Nat.le_of_ble_eq_true rfl) dX10_shrink_14 (mc := 0) (ms := 0) rfl rfl ⟨by show _ + 0 ≤ 0; omega, by show _ + 0 ≤ 0; omega⟩ (fun H locs hw => ?_)
  refine W.eq (g2 := F0 m 17 ls [.int z1]) rfl ?_
  refine lv_if_ne (tgt := 57) hx hb dX10_shrink_17 (by decide) (fun c2 => ?_) (fun c2 => ?_)
  · have hf := ie hf c2
    refine lv_iconst (v := (0 : Int32)) hx hb dX10_shrink_57 (by decide) ?_
    obtain ⟨rfl, rfl⟩ := sp hf
    exact r_iret C hw rfl rfl (by omega) (by omega) dX10_shrink_58
  · have hf := ip hf c2
    refine lv_aload_n hx hb dX10_shrink_20 rfl (lv_at hl 0 rfl) ?_
    refine lv_aload_n hx hb dX10_shrink_21 rfl (lv_at hl 0 rfl) ?_
    obtain ⟨z3, e3, hf⟩ := ob hf
    refine r_gR C hw e3 ck10 rfl (by decide) w964 dX10_shrink_22 ?_
    cases z3 with
    | none =>
      have hf := on_n hf
      cases hf
    | some a4 =>
      have hf := on_s hf
      refine W.eq (g2 := F0 m 25 ls [.ref a4, .ref x0]) rfl ?_
      refine lv_iload_n hx hb dX10_shrink_25 rfl (lv_at hl 1 rfl) ?_
      obtain ⟨z5, e5, hf⟩ := ob hf
      refine r_zald C hw e5 dX10_shrink_26 ?_
      refine lv_if_eq (tgt := 45) hx hb dX10_shrink_27 (by decide) (fun c6 => ?_) (fun c6 => ?_)
      · have hf := ip hf c6
        exact bX10_shrink_45 C hn _ _ _ _ _ hf _ _ _ _ _ (by omega) (by omega) hw (lv_sub hl [0, 1] rfl)
      · have hf := ie hf c6
        refine lv_aload_n hx hb dX10_shrink_30 rfl (lv_at hl 0 rfl) ?_
        obtain ⟨z7, e7, hf⟩ := ob hf
        refine r_gR C hw e7 ck10 rfl (by decide) w969 dX10_shrink_31 ?_
        cases z7 with
        | none =>
          have hf := on_n hf
          cases hf
        | some a8 =>
          have hf := on_s hf
          refine W.eq (g2 := F0 m 34 ls [.ref a8, .ref x0]) rfl ?_
          refine lv_iload_n hx hb dX10_shrink_34 rfl (lv_at hl 1 rfl) ?_
          obtain ⟨z9, e9, hf⟩ := ob hf
          refine r_iald C hw e9 dX10_shrink_35 ?_
          refine lv_aload_n hx hb dX10_shrink_36 rfl (lv_at hl 0 rfl) ?_
          obtain ⟨z10, e10, hf⟩ := ob hf
          refine r_gR C hw e10 ck10 rfl (by decide) w967 dX10_shrink_37 ?_
          cases z10 with
          | none =>
            have hf := on_n hf
            cases hf
          | some a11 =>
            have hf := on_s hf
            refine W.eq (g2 := F0 m 40 ls [.ref a11, .int z9, .ref x0]) rfl ?_
            refine lv_iload_n hx hb dX10_shrink_40 rfl (lv_at hl 1 rfl) ?_
            obtain ⟨z12, e12, hf⟩ := ob hf
            refine r_iald C hw e12 dX10_shrink_41 ?_
            refine lv_icmp_ne (tgt := 49) hx hb dX10_shrink_42 (by decide) (fun c13 => ?_) (fun c13 => ?_)
            · have hf := ie hf c13
              refine lv_iconst (v := (0 : Int32)) hx hb dX10_shrink_49 (by decide) ?_
              exact bX10_shrink_50 C hn _ _ _ _ _ _ hf _ _ _ _ _ (by omega) (by omega) hw (lv_sub hl [0, 1] rfl)
            · have hf := ip hf c13
              exact bX10_shrink_45 C hn _ _ _ _ _ hf _ _ _ _ _ (by omega) (by omega) hw (lv_sub hl [0, 1] rfl)
set_option maxRecDepth 100000 in
set_option maxHeartbeats 4000000 in
theorem bX10_shrink {D : va_G} {cy : Nat → ClassId} {s0 : Nat} {p : Program} {l : Launch} {e : Env} {s : State} {m : MethodId} {args : Array Value} {below : List Frame} {meth : Method} {c : Code} (C : CX D cy s0 p s m args meth c cX10_shrink 2 RX10 (some .int)) (hn : meth.name = "shrink") : ∀ (x0 : Nat) (x1 : Int32) (h : Hp) (r : Int32 × Hp), fX10_shrink x0 x1 h = some r → pX10_shrink D cy s0 p l e s m args below meth c r x0 x1 h := by
  intro x0 x1 h ⟨rv, rh⟩ hf H locs ls cells slots hc hs hw hl
  unfold fX10_shrink at hf
  have hx := C.1
  have hb := C.2.1
  refine lv_aload_n hx hb dX10_shrink_0 rfl (lv_at hl 0 rfl) ?_
  refine lv_iload_n hx hb dX10_shrink_1 rfl (lv_at hl 1 rfl) ?_
  obtain ⟨z1, h1, e1, hf⟩ := ob2 hf
  refine r_callS C hw (mX10_isNode e1) kXX10_isNode w1129 w1130 ⟨Nat.le_of_ble_eq_true rfl, Nat.le_of_ble_eq_true rfl⟩ rfl hl.1 (rest := [.ref x0]) rfl (Nat.le_of_ble_eq_true rfl) dX10_shrink_2 (mc := 0) (ms := 0) rfl rfl ⟨by show _ + 0 ≤ 0; omega, by show _ + 0 ≤ 0; omega⟩ (fun H locs hw => ?_)
  refine W.eq (g2 := F0 m 5 ls [.int z1, .ref x0]) rfl ?_
  refine lv_if_ne (tgt := 12) hx hb dX10_shrink_5 (by decide) (fun c2 => ?_) (fun c2 => ?_)
  · have hf := ie hf c2
    refine lv_iconst (v := (0 : Int32)) hx hb dX10_shrink_12 (by decide) ?_
    exact bX10_shrink_13 C hn _ _ _ _ _ _ hf _ _ _ _ _ (by omega) (by omega) hw (lv_sub hl [0, 1] rfl)
  · have hf := ip hf c2
    refine lv_iconst (v := (1 : Int32)) hx hb dX10_shrink_8 (by decide) ?_
    refine lv_goto (tgt := 13) hx hb dX10_shrink_9 (by decide) ?_
    exact bX10_shrink_13 C hn _ _ _ _ _ _ hf _ _ _ _ _ (by omega) (by omega) hw (lv_sub hl [0, 1] rfl)
theorem kXX10_shrink : MK yX10_shrink cX10_shrink 2 (some .int) 1 := ⟨w1228, w8, by decide +kernel⟩
theorem mX10_shrink {D : va_G} {cy : Nat → ClassId} {s0 : Nat} {l : Launch} {x0 : Nat} {x1 : Int32} {h : Hp} {v : Int32} {h1 : Hp} (hf : fX10_shrink x0 x1 h = some (v, h1)) : MT D cy s0 l yX10_shrink cX10_shrink 2 (some .int) rX10_shrink [.ref x0, .int x1] h (some (.int v)) h1 := by
  refine MT.of (by decide +kernel) (Nat.le_of_ble_eq_true rfl) ?_
  intro p e s m below meth c H locs ls C hn hw hl
  exact bX10_shrink C hn _ _ _ _ hf _ _ _ _ _ (Nat.le_of_ble_eq_true rfl) (Nat.le_of_ble_eq_true rfl) hw hl
abbrev rX10_start : Room := { frames := 1, cells := 0, slots := 0, locals := 22 }
abbrev pX10_start_13 (D : va_G) (cy : Nat → ClassId) (s0 : Nat) (p : Program) (l : Launch) (e : Env) (s : State) (m : MethodId) (args : Array Value) (below : List Frame) (meth : Method) (c : Code) (r : Int32 × Hp) (x0 : Nat) (x1 : Int32) (y0 : Int32) (y1 : Nat) (h : Hp) : Prop := ∀ (H : Heap) (locs : List Loc) (ls : Array Slot) (cells slots : Nat), cells + (0) ≤ 0 → slots + (0) ≤ 0 → WS D cy s0 s h H locs → lv_has ls 2 [(0, .ref x0), (1, .int x1)] → W p l e rX10_start s m args below meth c H locs cells slots (MQ below (QQ D cy s0 (some (.int r.1)) r.2) args s 0 0 (fun q => s0 ≤ q)) (F0 m 13 ls [.int y0, .ref y1])
abbrev pX10_start (D : va_G) (cy : Nat → ClassId) (s0 : Nat) (p : Program) (l : Launch) (e : Env) (s : State) (m : MethodId) (args : Array Value) (below : List Frame) (meth : Method) (c : Code) (r : Int32 × Hp) (x0 : Nat) (x1 : Int32) (h : Hp) : Prop := ∀ (H : Heap) (locs : List Loc) (ls : Array Slot) (cells slots : Nat), cells + (0) ≤ 0 → slots + (0) ≤ 0 → WS D cy s0 s h H locs → lv_has ls 2 [(0, .ref x0), (1, .int x1)] → W p l e rX10_start s m args below meth c H locs cells slots (MQ below (QQ D cy s0 (some (.int r.1)) r.2) args s 0 0 (fun q => s0 ≤ q)) (F0 m 0 ls [])
set_option maxRecDepth 100000 in
set_option maxHeartbeats 4000000 in
theorem bX10_start_13 {D : va_G} {cy : Nat → ClassId} {s0 : Nat} {p : Program} {l : Launch} {e : Env} {s : State} {m : MethodId} {args : Array Value} {below : List Frame} {meth : Method} {c : Code} (C : CX D cy s0 p s m args meth c cX10_start 2 RX10 (some .int)) (hn : meth.name = "start") : ∀ (x0 : Nat) (x1 : Int32) (y0 : Int32) (y1 : Nat) (h : Hp) (r : Int32 × Hp), fX10_start_13 x0 x1 y0 y1 h = some r → pX10_start_13 D cy s0 p l e s m args below meth c r x0 x1 y0 y1 h := by
  intro x0 x1 y0 y1 h ⟨rv, rh⟩ hf H locs ls cells slots hc hs hw hl
  unfold fX10_start_13 at hf
  have hx := C.1
  have hb := C.2.1
  refine lv_iconst (v := (1 : Int32)) hx hb dX10_start_13 (by decide) ?_
  obtain ⟨kb1, hf⟩ := ig hf
  obtain ⟨z1, h1, e1, hf⟩ := ob2 hf
  refine r_callV C hw (mX10_bad e1) kXX10_bad ck10 rfl kb1 w1132 w1134 v35 ⟨Nat.le_of_ble_eq_true rfl, Nat.le_of_ble_eq_true rfl⟩ rfl hl.1 (rest := []) rfl (Nat.le_of_ble_eq_true rfl) dX10_start_14 (mc := 0) (ms := 0) rfl rfl ⟨by show _ + 0 ≤ 0; omega, by show _ + 0 ≤ 0; omega⟩ (fun H locs hw => ?_)
  refine W.eq (g2 := F0 m 17 ls [.int z1]) rfl ?_
  refine lv_if_ne (tgt := 34) hx hb dX10_start_17 (by decide) (fun c2 => ?_) (fun c2 => ?_)
  · have hf := ie hf c2
    refine lv_iconst (v := (0 : Int32)) hx hb dX10_start_34 (by decide) ?_
    obtain ⟨rfl, rfl⟩ := sp hf
    exact r_iret C hw rfl rfl (by omega) (by omega) dX10_start_35
  · have hf := ip hf c2
    refine lv_aload_n hx hb dX10_start_20 rfl (lv_at hl 0 rfl) ?_
    refine lv_aload_n hx hb dX10_start_21 rfl (lv_at hl 0 rfl) ?_
    obtain ⟨z3, e3, hf⟩ := ob hf
    refine r_gR C hw e3 ck10 rfl (by decide) w964 dX10_start_22 ?_
    cases z3 with
    | none =>
      have hf := on_n hf
      cases hf
    | some a4 =>
      have hf := on_s hf
      refine W.eq (g2 := F0 m 25 ls [.ref a4, .ref x0]) rfl ?_
      refine lv_iload_n hx hb dX10_start_25 rfl (lv_at hl 1 rfl) ?_
      obtain ⟨z5, e5, hf⟩ := ob hf
      refine r_zald C hw e5 dX10_start_26 ?_
      refine lv_iconst (v := (2 : Int32)) hx hb dX10_start_27 (by decide) ?_
      obtain ⟨kb6, hf⟩ := ig hf
      obtain ⟨z6, h6, e6, hf⟩ := ob2 hf
      refine r_callV C hw (mX10_bad e6) kXX10_bad ck10 rfl kb6 w1132 w1134 v35 ⟨Nat.le_of_ble_eq_true rfl, Nat.le_of_ble_eq_true rfl⟩ rfl hl.1 (rest := []) rfl (Nat.le_of_ble_eq_true rfl) dX10_start_28 (mc := 0) (ms := 0) rfl rfl ⟨by show _ + 0 ≤ 0; omega, by show _ + 0 ≤ 0; omega⟩ (fun H locs hw => ?_)
      refine W.eq (g2 := F0 m 31 ls [.int z6]) rfl ?_
      refine lv_if_eq (tgt := 36) hx hb dX10_start_31 (by decide) (fun c7 => ?_) (fun c7 => ?_)
      · have hf := ip hf c7
        refine lv_aload_n hx hb dX10_start_36 rfl (lv_at hl 0 rfl) ?_
        obtain ⟨z8, e8, hf⟩ := ob hf
        refine r_gR C hw e8 ck10 rfl (by decide) w964 dX10_start_37 ?_
        cases z8 with
        | none =>
          have hf := on_n hf
          cases hf
        | some a9 =>
          have hf := on_s hf
          refine W.eq (g2 := F0 m 40 ls [.ref a9]) rfl ?_
          refine lv_iload_n hx hb dX10_start_40 rfl (lv_at hl 1 rfl) ?_
          refine lv_iconst (v := (1 : Int32)) hx hb dX10_start_41 (by decide) ?_
          obtain ⟨h10, e10, hf⟩ := ob hf
          refine r_zast C hw e10 dX10_start_42 (fun H locs hw => ?_)
          refine lv_aload_n hx hb dX10_start_43 rfl (lv_at hl 0 rfl) ?_
          obtain ⟨z11, e11, hf⟩ := ob hf
          refine r_gR C hw e11 ck10 rfl (by decide) w969 dX10_start_44 ?_
          cases z11 with
          | none =>
            have hf := on_n hf
            cases hf
          | some a12 =>
            have hf := on_s hf
            refine W.eq (g2 := F0 m 47 ls [.ref a12]) rfl ?_
            refine lv_iload_n hx hb dX10_start_47 rfl (lv_at hl 1 rfl) ?_
            refine lv_aload_n hx hb dX10_start_48 rfl (lv_at hl 0 rfl) ?_
            obtain ⟨z13, e13, hf⟩ := ob hf
            refine r_gR C hw e13 ck10 rfl (by decide) w967 dX10_start_49 ?_
            cases z13 with
            | none =>
              have hf := on_n hf
              cases hf
            | some a14 =>
              have hf := on_s hf
              refine W.eq (g2 := F0 m 52 ls [.ref a14, .int x1, .ref a12]) rfl ?_
              refine lv_iload_n hx hb dX10_start_52 rfl (lv_at hl 1 rfl) ?_
              obtain ⟨z15, e15, hf⟩ := ob hf
              refine r_iald C hw e15 dX10_start_53 ?_
              obtain ⟨h16, e16, hf⟩ := ob hf
              refine r_iast C hw e16 dX10_start_54 (fun H locs hw => ?_)
              refine lv_aload_n hx hb dX10_start_55 rfl (lv_at hl 0 rfl) ?_
              obtain ⟨z17, e17, hf⟩ := ob hf
              refine r_gR C hw e17 ck10 rfl (by decide) w970 dX10_start_56 ?_
              cases z17 with
              | none =>
                have hf := on_n hf
                cases hf
              | some a18 =>
                have hf := on_s hf
                refine W.eq (g2 := F0 m 59 ls [.ref a18]) rfl ?_
                refine lv_iload_n hx hb dX10_start_59 rfl (lv_at hl 1 rfl) ?_
                refine lv_aload_n hx hb dX10_start_60 rfl (lv_at hl 0 rfl) ?_
                obtain ⟨z19, e19, hf⟩ := ob hf
                refine r_gR C hw e19 ck10 rfl (by decide) w967 dX10_start_61 ?_
                cases z19 with
                | none =>
                  have hf := on_n hf
                  cases hf
                | some a20 =>
                  have hf := on_s hf
                  refine W.eq (g2 := F0 m 64 ls [.ref a20, .int x1, .ref a18]) rfl ?_
                  refine lv_iload_n hx hb dX10_start_64 rfl (lv_at hl 1 rfl) ?_
                  obtain ⟨z21, e21, hf⟩ := ob hf
                  refine r_iald C hw e21 dX10_start_65 ?_
                  obtain ⟨h22, e22, hf⟩ := ob hf
                  refine r_iast C hw e22 dX10_start_66 (fun H locs hw => ?_)
                  refine lv_aload_n hx hb dX10_start_67 rfl (lv_at hl 0 rfl) ?_
                  obtain ⟨z23, e23, hf⟩ := ob hf
                  refine r_gR C hw e23 ck10 rfl (by decide) w972 dX10_start_68 ?_
                  cases z23 with
                  | none =>
                    have hf := on_n hf
                    cases hf
                  | some a24 =>
                    have hf := on_s hf
                    refine W.eq (g2 := F0 m 71 ls [.ref a24]) rfl ?_
                    refine lv_iload_n hx hb dX10_start_71 rfl (lv_at hl 1 rfl) ?_
                    refine lv_iconst (v := (0 : Int32)) hx hb dX10_start_72 (by decide) ?_
                    obtain ⟨h25, e25, hf⟩ := ob hf
                    refine r_iast C hw e25 dX10_start_73 (fun H locs hw => ?_)
                    refine lv_aload_n hx hb dX10_start_74 rfl (lv_at hl 0 rfl) ?_
                    obtain ⟨z26, e26, hf⟩ := ob hf
                    refine r_gR C hw e26 ck10 rfl (by decide) w968 dX10_start_75 ?_
                    cases z26 with
                    | none =>
                      have hf := on_n hf
                      cases hf
                    | some a27 =>
                      have hf := on_s hf
                      refine W.eq (g2 := F0 m 78 ls [.ref a27]) rfl ?_
                      refine lv_iload_n hx hb dX10_start_78 rfl (lv_at hl 1 rfl) ?_
                      obtain ⟨z28, e28, hf⟩ := ob hf
                      refine r_iald C hw e28 dX10_start_79 ?_
                      obtain ⟨rfl, rfl⟩ := sp hf
                      exact r_iret C hw rfl rfl (by omega) (by omega) dX10_start_80
      · have hf := ie hf c7
        refine lv_iconst (v := (0 : Int32)) hx hb dX10_start_34 (by decide) ?_
        obtain ⟨rfl, rfl⟩ := sp hf
        exact r_iret C hw rfl rfl (by omega) (by omega) dX10_start_35
set_option maxRecDepth 100000 in
set_option maxHeartbeats 4000000 in
theorem bX10_start {D : va_G} {cy : Nat → ClassId} {s0 : Nat} {p : Program} {l : Launch} {e : Env} {s : State} {m : MethodId} {args : Array Value} {below : List Frame} {meth : Method} {c : Code} (C : CX D cy s0 p s m args meth c cX10_start 2 RX10 (some .int)) (hn : meth.name = "start") : ∀ (x0 : Nat) (x1 : Int32) (h : Hp) (r : Int32 × Hp), fX10_start x0 x1 h = some r → pX10_start D cy s0 p l e s m args below meth c r x0 x1 h := by
  intro x0 x1 h ⟨rv, rh⟩ hf H locs ls cells slots hc hs hw hl
  unfold fX10_start at hf
  have hx := C.1
  have hb := C.2.1
  refine lv_aload_n hx hb dX10_start_0 rfl (lv_at hl 0 rfl) ?_
  refine lv_iload_n hx hb dX10_start_1 rfl (lv_at hl 1 rfl) ?_
  obtain ⟨z1, h1, e1, hf⟩ := ob2 hf
  refine r_callS C hw (mX10_isNode e1) kXX10_isNode w1129 w1130 ⟨Nat.le_of_ble_eq_true rfl, Nat.le_of_ble_eq_true rfl⟩ rfl hl.1 (rest := [.ref x0]) rfl (Nat.le_of_ble_eq_true rfl) dX10_start_2 (mc := 0) (ms := 0) rfl rfl ⟨by show _ + 0 ≤ 0; omega, by show _ + 0 ≤ 0; omega⟩ (fun H locs hw => ?_)
  refine W.eq (g2 := F0 m 5 ls [.int z1, .ref x0]) rfl ?_
  refine lv_if_ne (tgt := 12) hx hb dX10_start_5 (by decide) (fun c2 => ?_) (fun c2 => ?_)
  · have hf := ie hf c2
    refine lv_iconst (v := (0 : Int32)) hx hb dX10_start_12 (by decide) ?_
    exact bX10_start_13 C hn _ _ _ _ _ _ hf _ _ _ _ _ (by omega) (by omega) hw (lv_sub hl [0, 1] rfl)
  · have hf := ip hf c2
    refine lv_iconst (v := (1 : Int32)) hx hb dX10_start_8 (by decide) ?_
    refine lv_goto (tgt := 13) hx hb dX10_start_9 (by decide) ?_
    exact bX10_start_13 C hn _ _ _ _ _ _ hf _ _ _ _ _ (by omega) (by omega) hw (lv_sub hl [0, 1] rfl)
theorem kXX10_start : MK yX10_start cX10_start 2 (some .int) 1 := ⟨w1236, w8, by decide +kernel⟩
theorem mX10_start {D : va_G} {cy : Nat → ClassId} {s0 : Nat} {l : Launch} {x0 : Nat} {x1 : Int32} {h : Hp} {v : Int32} {h1 : Hp} (hf : fX10_start x0 x1 h = some (v, h1)) : MT D cy s0 l yX10_start cX10_start 2 (some .int) rX10_start [.ref x0, .int x1] h (some (.int v)) h1 := by
  refine MT.of (by decide +kernel) (Nat.le_of_ble_eq_true rfl) ?_
  intro p e s m below meth c H locs ls C hn hw hl
  exact bX10_start C hn _ _ _ _ hf _ _ _ _ _ (Nat.le_of_ble_eq_true rfl) (Nat.le_of_ble_eq_true rfl) hw hl
