def fX5_commitWhatMatches_84_body (k84 : Nat → Int32 → Hp → Option (Unit × Hp)) (x0 : Nat) (x3 : Int32) (h : Hp) : Option (Unit × Hp) :=
  bd (gI h 5 5 x0) fun z1 => if x3 ≤ z1 then (some ((), h)) else (bd (gR h 5 0 x0) fun z3 => onR z3 (none) fun a4 => if hK h a4 = some (1, 0) then (bd2 (fX1_termAt a4 x3 h) fun z5 h5 => bd (gR h5 5 0 x0) fun z6 => onR z6 (none) fun a7 => bd (gI h5 1 0 a7) fun z8 => if z5 = z8 then (bd (pI h5 5 5 x0 x3) fun h10 => some ((), h10)) else (k84 x0 (x3 + (-1 : Int32)) h5)) else none)
def fX5_commitWhatMatches_84 : Nat → Nat → Int32 → Hp → Option (Unit × Hp)
  | 0 => fun _ _ _ => none
  | n + 1 => fX5_commitWhatMatches_84_body (fX5_commitWhatMatches_84 n)
def fX5_commitWhatMatches_66 (k6 : Nat → Int32 → Int32 → Int32 → Hp → Option (Unit × Hp)) (x0 : Nat) (x1 : Int32) (x2 : Int32) (x3 : Int32) (h : Hp) : Option (Unit × Hp) :=
  k6 x0 x1 x2 (x3 + (1 : Int32)) h
def fX5_commitWhatMatches_41 (k6 : Nat → Int32 → Int32 → Int32 → Hp → Option (Unit × Hp)) (x0 : Nat) (x1 : Int32) (x2 : Int32) (x3 : Int32) (h : Hp) : Option (Unit × Hp) :=
  bd (gI h 5 6 x0) fun z1 => if x3 = z1 then (fX5_commitWhatMatches_66 k6 x0 x1 x2 x3 h) else (bd (gR h 5 13 x0) fun z3 => onR z3 (none) fun a4 => bd (ldI h 11 a4 x3) fun z5 => if z5 ≤ x2 then (fX5_commitWhatMatches_66 k6 x0 x1 x2 x3 h) else (bd (gR h 5 13 x0) fun z7 => onR z7 (none) fun a8 => bd (ldI h 11 a8 x3) fun z9 => fX5_commitWhatMatches_66 k6 x0 x1 z9 x3 h))
def fX5_commitWhatMatches_6_body (k6 : Nat → Int32 → Int32 → Int32 → Hp → Option (Unit × Hp)) (x0 : Nat) (x1 : Int32) (x2 : Int32) (x3 : Int32) (h : Hp) : Option (Unit × Hp) :=
  if (5 : Int32) ≤ x3 then (bd (gR h 5 0 x0) fun z2 => onR z2 (none) fun a3 => bd (gI h 1 2 a3) fun z4 => fX5_commitWhatMatches_84 LF x0 (mn x2 z4) h) else (bd (gI h 5 6 x0) fun z5 => if x3 = z5 then (fX5_commitWhatMatches_41 k6 x0 x1 x2 x3 h) else (bd (gR h 5 13 x0) fun z7 => onR z7 (none) fun a8 => bd (ldI h 11 a8 x3) fun z9 => if z9 ≤ x1 then (fX5_commitWhatMatches_41 k6 x0 x1 x2 x3 h) else (bd (gR h 5 13 x0) fun z11 => onR z11 (none) fun a12 => bd (ldI h 11 a12 x3) fun z13 => fX5_commitWhatMatches_66 k6 x0 z13 x1 x3 h)))
def fX5_commitWhatMatches_6 : Nat → Nat → Int32 → Int32 → Int32 → Hp → Option (Unit × Hp)
  | 0 => fun _ _ _ _ _ => none
  | n + 1 => fX5_commitWhatMatches_6_body (fX5_commitWhatMatches_6 n)
def fX5_commitWhatMatches (x0 : Nat) (h : Hp) : Option (Unit × Hp) :=
  fX5_commitWhatMatches_6 LF x0 (0 : Int32) (0 : Int32) (0 : Int32) h
def fX5_field (x0 : Nat) (x1 : Int32) (h : Hp) : Option (Int32 × Hp) :=
  if x1 = (0 : Int32) then (bd (gI h 5 3 x0) fun z11 => if z11 = 0 then (some ((0 : Int32), h)) else (some ((1 : Int32), h))) else (if x1 = (1 : Int32) then (bd (gR h 5 0 x0) fun z13 => onR z13 (none) fun a14 => bd (gI h 1 0 a14) fun z15 => some (z15, h)) else (if x1 = (2 : Int32) then (bd (gR h 5 0 x0) fun z16 => onR z16 (none) fun a17 => bd (gI h 1 1 a17) fun z18 => some (z18, h)) else (if x1 = (3 : Int32) then (bd (gI h 5 4 x0) fun z19 => some (z19, h)) else (if x1 = (4 : Int32) then (bd (gR h 5 0 x0) fun z20 => onR z20 (none) fun a21 => bd (gR h 1 3 a21) fun z22 => onR z22 (none) fun a23 => bd (gI h 6 1 a23) fun z24 => some (z24, h)) else (if x1 = (5 : Int32) then (bd (gR h 5 0 x0) fun z25 => onR z25 (none) fun a26 => bd (gI h 1 2 a26) fun z27 => some (z27, h)) else (if x1 = (6 : Int32) then (bd (gI h 5 5 x0) fun z28 => some (z28, h)) else (bd (gR h 5 0 x0) fun z1 => onR z1 (none) fun a2 => bd (gR h 5 0 x0) fun z3 => onR z3 (none) fun a4 => bd (gI h 1 2 a4) fun z5 => if hK h a2 = some (1, 0) then (bd2 (fX1_termAt a2 z5 h) fun z6 h6 => some (z6, h6)) else none)))))))
def fX5_goDown (x0 : Nat) (h : Hp) : Option (Unit × Hp) :=
  bd (pZ h 5 3 x0 (0 : Int32)) fun h1 => bd (pI h1 5 4 x0 (0 : Int32)) fun h2 => bd (pI h2 5 9 x0 (0 : Int32)) fun h3 => bd (gR h3 5 0 x0) fun z4 => onR z4 (none) fun a5 => bd (gR h3 1 3 a5) fun z6 => onR z6 (none) fun a7 => bd (gI h3 6 1 a7) fun z8 => bd (pI h3 5 5 x0 z8) fun h9 => bd (gI h9 5 5 x0) fun z10 => bd (pI h9 5 10 x0 z10) fun h11 => bd (gR h11 5 0 x0) fun z12 => onR z12 (none) fun a13 => bd (pI h11 1 4 a13 (-1 : Int32)) fun h14 => some ((), h14)
def fX5_sendTo (x0 : Nat) (x1 : Int32) (h : Hp) : Option (Unit × Hp) :=
  bd (gR h 5 12 x0) fun z1 => onR z1 (none) fun a2 => bd (ldI h 11 a2 x1) fun z3 => bd (gR h 5 0 x0) fun z4 => onR z4 (none) fun a5 => bd (gR h 1 3 a5) fun z6 => onR z6 (none) fun a7 => bd (gI h 6 1 a7) fun z8 => if z8 ≤ (z3 - (1 : Int32)) then (bd (nwO h 4) fun h10 => bd (gI h10 5 6 x0) fun z11 => bd (gR h10 5 0 x0) fun z12 => onR z12 (none) fun a13 => bd (gI h10 1 0 a13) fun z14 => bd (gR h10 5 0 x0) fun z15 => onR z15 (none) fun a16 => if hK h10 a16 = some (1, 0) then (bd2 (fX1_termAt a16 (z3 - (1 : Int32)) h10) fun z17 h17 => bd2 (fX4_init (hZ h) (2 : Int32) z11 x1 z14 (z3 - (1 : Int32)) z17 h17) fun _ h18 => bd (gR h18 5 0 x0) fun z19 => onR z19 (none) fun a20 => if hK h18 a20 = some (1, 0) then (bd2 (fX1_entriesBehind a20 (z3 - (1 : Int32)) h18) fun z21 h21 => onR z21 (bd (pR h21 4 6 (hZ h) none) fun h30 => bd (gI h30 5 5 x0) fun z31 => bd (pI h30 4 7 (hZ h) z31) fun h32 => bd (gR h32 5 7 x0) fun z33 => onR z33 (none) fun a34 => if hK h32 a34 = some (3, 0) then (bd2 (fX3_send a34 (hZ h) h32) fun _ h35 => some ((), h35)) else none) fun a22 => bd (pR h21 4 6 (hZ h) (some a22)) fun h23 => bd (gI h23 5 5 x0) fun z24 => bd (pI h23 4 7 (hZ h) z24) fun h25 => bd (gR h25 5 7 x0) fun z26 => onR z26 (none) fun a27 => if hK h25 a27 = some (3, 0) then (bd2 (fX3_send a27 (hZ h) h25) fun _ h28 => some ((), h28)) else none) else none) else none) else (bd (nwO h 4) fun h39 => bd (gI h39 5 6 x0) fun z40 => bd (gR h39 5 0 x0) fun z41 => onR z41 (none) fun a42 => bd (gI h39 1 0 a42) fun z43 => bd (gI h39 6 1 a7) fun z44 => bd (gI h39 6 2 a7) fun z45 => bd2 (fX4_init (hZ h) (5 : Int32) z40 x1 z43 z44 z45 h39) fun _ h46 => bd (pR h46 4 8 (hZ h) (some a7)) fun h47 => bd (gR h47 5 7 x0) fun z48 => onR z48 (none) fun a49 => if hK h47 a49 = some (3, 0) then (bd2 (fX3_send a49 (hZ h) h47) fun _ h50 => some ((), h50)) else none)
def fX5_handleAccept_38 (x0 : Nat) (x1 : Nat) (h : Hp) : Option (Unit × Hp) :=
  bd (gR h 5 12 x0) fun z1 => onR z1 (none) fun a2 => bd (gI h 4 1 x1) fun z3 => bd (gR h 5 13 x0) fun z4 => onR z4 (none) fun a5 => bd (gI h 4 1 x1) fun z6 => bd (ldI h 11 a5 z6) fun z7 => bd (stI h 11 a2 z3 (z7 + (1 : Int32))) fun h8 => if hK h8 x0 = some (5, 0) then (bd2 (fX5_commitWhatMatches x0 h8) fun _ h9 => bd (gR h9 5 12 x0) fun z10 => onR z10 (none) fun a11 => bd (gI h9 4 1 x1) fun z12 => bd (ldI h9 11 a11 z12) fun z13 => bd (gR h9 5 0 x0) fun z14 => onR z14 (none) fun a15 => bd (gI h9 1 2 a15) fun z16 => if z16 < z13 then (some ((), h9)) else (bd (gI h9 4 1 x1) fun z18 => if hK h9 x0 = some (5, 0) then (bd2 (fX5_sendTo x0 z18 h9) fun _ h19 => some ((), h19)) else none)) else none
def fX5_handleAccept (x0 : Nat) (x1 : Nat) (h : Hp) : Option (Unit × Hp) :=
  bd (gI h 5 4 x0) fun z1 => if z1 = (2 : Int32) then (bd (gR h 5 13 x0) fun z3 => onR z3 (none) fun a4 => bd (gI h 4 1 x1) fun z5 => bd (ldI h 11 a4 z5) fun z6 => bd (gI h 4 4 x1) fun z7 => if z7 ≤ z6 then (fX5_handleAccept_38 x0 x1 h) else (bd (gR h 5 13 x0) fun z9 => onR z9 (none) fun a10 => bd (gI h 4 1 x1) fun z11 => bd (gI h 4 4 x1) fun z12 => bd (stI h 11 a10 z11 z12) fun h13 => fX5_handleAccept_38 x0 x1 h13)) else (some ((), h))
def fX5_survives (x0 : Nat) (x1 : Int32) (h : Hp) : Option (Int32 × Hp) :=
  if x1 = 0 then (if hK h x0 = some (5, 0) then (bd2 (fX5_goDown x0 h) fun _ h2 => if x1 = 0 ∨ x1 = 1 then some (x1, h2) else none) else none) else (if x1 = 0 ∨ x1 = 1 then some (x1, h) else none)
def fX5_keepEntries_79 (k2 : Nat → Nat → Int32 → Int32 → Hp → Option (Int32 × Hp)) (x0 : Nat) (x1 : Nat) (x2 : Int32) (x3 : Int32) (h : Hp) : Option (Int32 × Hp) :=
  k2 x0 x1 x2 (x3 + (1 : Int32)) h
def fX5_keepEntries_2_body (k2 : Nat → Nat → Int32 → Int32 → Hp → Option (Int32 × Hp)) (x0 : Nat) (x1 : Nat) (x2 : Int32) (x3 : Int32) (h : Hp) : Option (Int32 × Hp) :=
  if hK h x1 = some (4, 0) then (bd2 (fX4_entryCount x1 h) fun z1 h1 => if z1 ≤ x3 then (some ((1 : Int32), h1)) else (bd (gI h1 4 4 x1) fun z3 => bd (gR h1 4 6 x1) fun z4 => onR z4 (none) fun a5 => bd (ldR h1 14 a5 x3) fun z6 => onR z6 (if ((z3 + (1 : Int32)) + x3) ≤ x2 then (fX5_keepEntries_79 k2 x0 x1 x2 x3 h1) else (fX5_keepEntries_79 k2 x0 x1 x2 x3 h1)) fun a7 => if ((z3 + (1 : Int32)) + x3) ≤ x2 then (fX5_keepEntries_79 k2 x0 x1 x2 x3 h1) else (bd (gR h1 5 0 x0) fun z9 => onR z9 (none) fun a10 => if hK h1 a10 = some (1, 0) then (bd2 (fX1_termAt a10 ((z3 + (1 : Int32)) + x3) h1) fun z11 h11 => bd (gI h11 2 0 a7) fun z12 => if z11 = z12 then (fX5_keepEntries_79 k2 x0 x1 x2 x3 h11) else (bd (gR h11 5 0 x0) fun z14 => onR z14 (none) fun a15 => if hK h11 a15 = some (1, 0) then (bd2 (fX1_recordEntry a15 ((z3 + (1 : Int32)) + x3) a7 h11) fun z16 h16 => if hK h16 x0 = some (5, 0) then (bd2 (fX5_survives x0 z16 h16) fun z17 h17 => if z17 = 0 then (some ((0 : Int32), h17)) else (fX5_keepEntries_79 k2 x0 x1 x2 x3 h17)) else none) else none)) else none))) else none
def fX5_keepEntries_2 : Nat → Nat → Nat → Int32 → Int32 → Hp → Option (Int32 × Hp)
  | 0 => fun _ _ _ _ _ => none
  | n + 1 => fX5_keepEntries_2_body (fX5_keepEntries_2 n)
def fX5_keepEntries (x0 : Nat) (x1 : Nat) (x2 : Int32) (h : Hp) : Option (Int32 × Hp) :=
  fX5_keepEntries_2 LF x0 x1 x2 (0 : Int32) h
def fX5_handleAppend_83 (x0 : Nat) (x1 : Nat) (x2 : Int32) (h : Hp) : Option (Unit × Hp) :=
  if hK h x0 = some (5, 0) then (bd2 (fX5_keepEntries x0 x1 x2 h) fun z1 h1 => if z1 = 0 then (some ((), h1)) else (bd (gI h1 4 4 x1) fun z3 => if hK h1 x1 = some (4, 0) then (bd2 (fX4_entryCount x1 h1) fun z4 h4 => bd (gI h4 5 5 x0) fun z5 => bd (gI h4 4 7 x1) fun z6 => bd (pI h4 5 5 x0 (mx z5 (mn z6 (z3 + z4)))) fun h7 => if hK h7 x0 = some (5, 0) then (bd2 (fX5_reply x0 x1 (3 : Int32) (mx (z3 + z4) x2) h7) fun _ h8 => some ((), h8)) else none) else none)) else none
def fX5_handleAppend (x0 : Nat) (x1 : Nat) (h : Hp) : Option (Unit × Hp) :=
  bd (pI h 5 4 x0 (0 : Int32)) fun h1 => bd (gR h1 5 0 x0) fun z2 => onR z2 (none) fun a3 => bd (gR h1 1 3 a3) fun z4 => onR z4 (none) fun a5 => bd (gI h1 6 1 a5) fun z6 => bd (gI h1 4 4 x1) fun z7 => bd (gR h1 5 0 x0) fun z8 => onR z8 (none) fun a9 => bd (gI h1 1 2 a9) fun z10 => if z7 ≤ z10 then (bd (gI h1 4 4 x1) fun z12 => if z12 < z6 then (fX5_handleAppend_83 x0 x1 z6 h1) else (bd (gR h1 5 0 x0) fun z14 => onR z14 (none) fun a15 => bd (gI h1 4 4 x1) fun z16 => if hK h1 a15 = some (1, 0) then (bd2 (fX1_termAt a15 z16 h1) fun z17 h17 => bd (gI h17 4 5 x1) fun z18 => if z17 = z18 then (fX5_handleAppend_83 x0 x1 z6 h17) else (bd (gI h17 4 4 x1) fun z20 => if hK h17 x0 = some (5, 0) then (bd2 (fX5_reply x0 x1 (4 : Int32) (z20 - (1 : Int32)) h17) fun _ h21 => some ((), h21)) else none)) else none)) else (bd (gR h1 5 0 x0) fun z24 => onR z24 (none) fun a25 => bd (gI h1 1 2 a25) fun z26 => if hK h1 x0 = some (5, 0) then (bd2 (fX5_reply x0 x1 (4 : Int32) z26 h1) fun _ h27 => some ((), h27)) else none)
abbrev rX5_commitWhatMatches : Room := { frames := 2, cells := 0, slots := 0, locals := 43 }
abbrev pX5_commitWhatMatches_84 (D : va_G) (cy : Nat → ClassId) (s0 : Nat) (p : Program) (l : Launch) (e : Env) (s : State) (m : MethodId) (args : Array Value) (below : List Frame) (meth : Method) (c : Code) (r : Unit × Hp) (x0 : Nat) (x3 : Int32) (h : Hp) : Prop := ∀ (H : Heap) (locs : List Loc) (ls : Array Slot) (cells slots : Nat), cells + (0) ≤ 0 → slots + (0) ≤ 0 → WS D cy s0 s h H locs → lv_has ls 4 [(0, .ref x0), (3, .int x3)] → W p l e rX5_commitWhatMatches s m args below meth c H locs cells slots (MQ below (QQ D cy s0 none r.2) args s 0 0 (fun q => s0 ≤ q)) (F0 m 84 ls [])
abbrev pX5_commitWhatMatches_66 (D : va_G) (cy : Nat → ClassId) (s0 : Nat) (p : Program) (l : Launch) (e : Env) (s : State) (m : MethodId) (args : Array Value) (below : List Frame) (meth : Method) (c : Code) (r : Unit × Hp) (x0 : Nat) (x1 : Int32) (x2 : Int32) (x3 : Int32) (h : Hp) : Prop := ∀ (H : Heap) (locs : List Loc) (ls : Array Slot) (cells slots : Nat), cells + (0) ≤ 0 → slots + (0) ≤ 0 → WS D cy s0 s h H locs → lv_has ls 4 [(0, .ref x0), (1, .int x1), (2, .int x2), (3, .int x3)] → W p l e rX5_commitWhatMatches s m args below meth c H locs cells slots (MQ below (QQ D cy s0 none r.2) args s 0 0 (fun q => s0 ≤ q)) (F0 m 66 ls [])
abbrev pX5_commitWhatMatches_41 (D : va_G) (cy : Nat → ClassId) (s0 : Nat) (p : Program) (l : Launch) (e : Env) (s : State) (m : MethodId) (args : Array Value) (below : List Frame) (meth : Method) (c : Code) (r : Unit × Hp) (x0 : Nat) (x1 : Int32) (x2 : Int32) (x3 : Int32) (h : Hp) : Prop := ∀ (H : Heap) (locs : List Loc) (ls : Array Slot) (cells slots : Nat), cells + (0) ≤ 0 → slots + (0) ≤ 0 → WS D cy s0 s h H locs → lv_has ls 4 [(0, .ref x0), (1, .int x1), (2, .int x2), (3, .int x3)] → W p l e rX5_commitWhatMatches s m args below meth c H locs cells slots (MQ below (QQ D cy s0 none r.2) args s 0 0 (fun q => s0 ≤ q)) (F0 m 41 ls [])
abbrev pX5_commitWhatMatches_6 (D : va_G) (cy : Nat → ClassId) (s0 : Nat) (p : Program) (l : Launch) (e : Env) (s : State) (m : MethodId) (args : Array Value) (below : List Frame) (meth : Method) (c : Code) (r : Unit × Hp) (x0 : Nat) (x1 : Int32) (x2 : Int32) (x3 : Int32) (h : Hp) : Prop := ∀ (H : Heap) (locs : List Loc) (ls : Array Slot) (cells slots : Nat), cells + (0) ≤ 0 → slots + (0) ≤ 0 → WS D cy s0 s h H locs → lv_has ls 4 [(0, .ref x0), (1, .int x1), (2, .int x2), (3, .int x3)] → W p l e rX5_commitWhatMatches s m args below meth c H locs cells slots (MQ below (QQ D cy s0 none r.2) args s 0 0 (fun q => s0 ≤ q)) (F0 m 6 ls [])
abbrev pX5_commitWhatMatches (D : va_G) (cy : Nat → ClassId) (s0 : Nat) (p : Program) (l : Launch) (e : Env) (s : State) (m : MethodId) (args : Array Value) (below : List Frame) (meth : Method) (c : Code) (r : Unit × Hp) (x0 : Nat) (h : Hp) : Prop := ∀ (H : Heap) (locs : List Loc) (ls : Array Slot) (cells slots : Nat), cells + (0) ≤ 0 → slots + (0) ≤ 0 → WS D cy s0 s h H locs → lv_has ls 4 [(0, .ref x0)] → W p l e rX5_commitWhatMatches s m args below meth c H locs cells slots (MQ below (QQ D cy s0 none r.2) args s 0 0 (fun q => s0 ≤ q)) (F0 m 0 ls [])
set_option maxRecDepth 100000 in
set_option maxHeartbeats 4000000 in
theorem bX5_commitWhatMatches_84_body {D : va_G} {cy : Nat → ClassId} {s0 : Nat} {p : Program} {l : Launch} {e : Env} {s : State} {m : MethodId} {args : Array Value} {below : List Frame} {meth : Method} {c : Code} (C : CX D cy s0 p s m args meth c cX5_commitWhatMatches 4 RX5 none) (hn : meth.name = "commitWhatMatches") {k84 : Nat → Int32 → Hp → Option (Unit × Hp)} (hk84 : ∀ (x0 : Nat) (x3 : Int32) (h : Hp) (r : Unit × Hp), k84 x0 x3 h = some r → pX5_commitWhatMatches_84 D cy s0 p l e s m args below meth c r x0 x3 h) : ∀ (x0 : Nat) (x3 : Int32) (h : Hp) (r : Unit × Hp), fX5_commitWhatMatches_84_body k84 x0 x3 h = some r → pX5_commitWhatMatches_84 D cy s0 p l e s m args below meth c r x0 x3 h := by
  intro x0 x3 h ⟨rv, rh⟩ hf H locs ls cells slots hc hs hw hl
  unfold fX5_commitWhatMatches_84_body at hf
  have hx := C.1
  have hb := C.2.1
  refine lv_iload_n hx hb dX5_commitWhatMatches_84 rfl (lv_at hl 1 rfl) ?_
  refine lv_aload_n hx hb dX5_commitWhatMatches_85 rfl (lv_at hl 0 rfl) ?_
  obtain ⟨z1, e1, hf⟩ := ob hf
  refine r_gI C hw e1 ck5 rfl (by decide) w200 dX5_commitWhatMatches_86 ?_
  refine lv_icmp_le (tgt := 122) hx hb dX5_commitWhatMatches_89 (by decide) (fun c2 => ?_) (fun c2 => ?_)
  · have hf := ip hf c2
    obtain ⟨rfl, rfl⟩ := sp hf
    exact r_vret C hw rfl (by omega) (by omega) dX5_commitWhatMatches_122
  · have hf := ie hf c2
    refine lv_aload_n hx hb dX5_commitWhatMatches_92 rfl (lv_at hl 0 rfl) ?_
    obtain ⟨z3, e3, hf⟩ := ob hf
    refine r_gR C hw e3 ck5 rfl (by decide) w189 dX5_commitWhatMatches_93 ?_
    cases z3 with
    | none =>
      have hf := on_n hf
      cases hf
    | some a4 =>
      have hf := on_s hf
      refine W.eq (g2 := F0 m 96 ls [.ref a4]) rfl ?_
      refine lv_iload_n hx hb dX5_commitWhatMatches_96 rfl (lv_at hl 1 rfl) ?_
      obtain ⟨kb5, hf⟩ := ig hf
      obtain ⟨z5, h5, e5, hf⟩ := ob2 hf
      refine r_callV C hw (mX1_termAt e5) kXX1_termAt ck1 rfl kb5 w390 w391 w392 ⟨Nat.le_of_ble_eq_true rfl, Nat.le_of_ble_eq_true rfl⟩ rfl hl.1 (rest := []) rfl (Nat.le_of_ble_eq_true rfl) dX5_commitWhatMatches_97 (mc := 0) (ms := 0) rfl rfl ⟨by show _ + 0 ≤ 0; omega, by show _ + 0 ≤ 0; omega⟩ (fun H locs hw => ?_)
      refine W.eq (g2 := F0 m 100 ls [.int z5]) rfl ?_
      refine lv_aload_n hx hb dX5_commitWhatMatches_100 rfl (lv_at hl 0 rfl) ?_
      obtain ⟨z6, e6, hf⟩ := ob hf
      refine r_gR C hw e6 ck5 rfl (by decide) w189 dX5_commitWhatMatches_101 ?_
      cases z6 with
      | none =>
        have hf := on_n hf
        cases hf
      | some a7 =>
        have hf := on_s hf
        refine W.eq (g2 := F0 m 104 ls [.ref a7, .int z5]) rfl ?_
        obtain ⟨z8, e8, hf⟩ := ob hf
        refine r_gI C hw e8 ck1 rfl (by decide) w162 dX5_commitWhatMatches_104 ?_
        refine lv_icmp_ne (tgt := 116) hx hb dX5_commitWhatMatches_107 (by decide) (fun c9 => ?_) (fun c9 => ?_)
        · have hf := ie hf c9
          refine lv_iinc (v := (x3 + (-1 : Int32))) (lv' := [(3, .int (x3 + (-1 : Int32))), (0, .ref x0)]) hx hb dX5_commitWhatMatches_116 hl (k := 1) rfl rfl (by decide) rfl (fun ls hl => ?_)
          refine lv_goto (tgt := 84) hx hb dX5_commitWhatMatches_119 (by decide) ?_
          exact hk84 _ _ _ _ hf _ _ _ _ _ (by omega) (by omega) hw (lv_sub hl [1, 0] rfl)
        · have hf := ip hf c9
          refine lv_aload_n hx hb dX5_commitWhatMatches_110 rfl (lv_at hl 0 rfl) ?_
          refine lv_iload_n hx hb dX5_commitWhatMatches_111 rfl (lv_at hl 1 rfl) ?_
          obtain ⟨h10, e10, hf⟩ := ob hf
          refine r_pI C hw e10 ck5 rfl (by decide) rfl w200 (Or.inl rfl) dX5_commitWhatMatches_112 (fun H locs hw => ?_)
          obtain ⟨rfl, rfl⟩ := sp hf
          exact r_vret C hw rfl (by omega) (by omega) dX5_commitWhatMatches_115
set_option maxRecDepth 100000 in
set_option maxHeartbeats 4000000 in
theorem bX5_commitWhatMatches_84 {D : va_G} {cy : Nat → ClassId} {s0 : Nat} {p : Program} {l : Launch} {e : Env} {s : State} {m : MethodId} {args : Array Value} {below : List Frame} {meth : Method} {c : Code} (C : CX D cy s0 p s m args meth c cX5_commitWhatMatches 4 RX5 none) (hn : meth.name = "commitWhatMatches") : ∀ (n : Nat) (x0 : Nat) (x3 : Int32) (h : Hp) (r : Unit × Hp), fX5_commitWhatMatches_84 n x0 x3 h = some r → pX5_commitWhatMatches_84 D cy s0 p l e s m args below meth c r x0 x3 h := by
  intro n
  induction n with
  | zero => intro x0 x3 h r hf; exact absurd hf (fun q => by cases q)
  | succ n ih => exact bX5_commitWhatMatches_84_body C hn ih
set_option maxRecDepth 100000 in
set_option maxHeartbeats 4000000 in
theorem bX5_commitWhatMatches_66 {D : va_G} {cy : Nat → ClassId} {s0 : Nat} {p : Program} {l : Launch} {e : Env} {s : State} {m : MethodId} {args : Array Value} {below : List Frame} {meth : Method} {c : Code} (C : CX D cy s0 p s m args meth c cX5_commitWhatMatches 4 RX5 none) (hn : meth.name = "commitWhatMatches") {k6 : Nat → Int32 → Int32 → Int32 → Hp → Option (Unit × Hp)} (hk6 : ∀ (x0 : Nat) (x1 : Int32) (x2 : Int32) (x3 : Int32) (h : Hp) (r : Unit × Hp), k6 x0 x1 x2 x3 h = some r → pX5_commitWhatMatches_6 D cy s0 p l e s m args below meth c r x0 x1 x2 x3 h) : ∀ (x0 : Nat) (x1 : Int32) (x2 : Int32) (x3 : Int32) (h : Hp) (r : Unit × Hp), fX5_commitWhatMatches_66 k6 x0 x1 x2 x3 h = some r → pX5_commitWhatMatches_66 D cy s0 p l e s m args below meth c r x0 x1 x2 x3 h := by
  intro x0 x1 x2 x3 h ⟨rv, rh⟩ hf H locs ls cells slots hc hs hw hl
  unfold fX5_commitWhatMatches_66 at hf
  have hx := C.1
  have hb := C.2.1
  refine lv_iinc (v := (x3 + (1 : Int32))) (lv' := [(3, .int (x3 + (1 : Int32))), (0, .ref x0), (1, .int x1), (2, .int x2)]) hx hb dX5_commitWhatMatches_66 hl (k := 3) rfl rfl (by decide) rfl (fun ls hl => ?_)
  refine lv_goto (tgt := 6) hx hb dX5_commitWhatMatches_69 (by decide) ?_
  exact hk6 _ _ _ _ _ _ hf _ _ _ _ _ (by omega) (by omega) hw (lv_sub hl [1, 2, 3, 0] rfl)
set_option maxRecDepth 100000 in
set_option maxHeartbeats 4000000 in
theorem bX5_commitWhatMatches_41 {D : va_G} {cy : Nat → ClassId} {s0 : Nat} {p : Program} {l : Launch} {e : Env} {s : State} {m : MethodId} {args : Array Value} {below : List Frame} {meth : Method} {c : Code} (C : CX D cy s0 p s m args meth c cX5_commitWhatMatches 4 RX5 none) (hn : meth.name = "commitWhatMatches") {k6 : Nat → Int32 → Int32 → Int32 → Hp → Option (Unit × Hp)} (hk6 : ∀ (x0 : Nat) (x1 : Int32) (x2 : Int32) (x3 : Int32) (h : Hp) (r : Unit × Hp), k6 x0 x1 x2 x3 h = some r → pX5_commitWhatMatches_6 D cy s0 p l e s m args below meth c r x0 x1 x2 x3 h) : ∀ (x0 : Nat) (x1 : Int32) (x2 : Int32) (x3 : Int32) (h : Hp) (r : Unit × Hp), fX5_commitWhatMatches_41 k6 x0 x1 x2 x3 h = some r → pX5_commitWhatMatches_41 D cy s0 p l e s m args below meth c r x0 x1 x2 x3 h := by
  intro x0 x1 x2 x3 h ⟨rv, rh⟩ hf H locs ls cells slots hc hs hw hl
  unfold fX5_commitWhatMatches_41 at hf
  have hx := C.1
  have hb := C.2.1
  refine lv_iload_n hx hb dX5_commitWhatMatches_41 rfl (lv_at hl 3 rfl) ?_
  refine lv_aload_n hx hb dX5_commitWhatMatches_42 rfl (lv_at hl 0 rfl) ?_
  obtain ⟨z1, e1, hf⟩ := ob hf
  refine r_gI C hw e1 ck5 rfl (by decide) w201 dX5_commitWhatMatches_43 ?_
  refine lv_icmp_eq (tgt := 66) hx hb dX5_commitWhatMatches_46 (by decide) (fun c2 => ?_) (fun c2 => ?_)
  · have hf := ip hf c2
    exact bX5_commitWhatMatches_66 C hn hk6 _ _ _ _ _ _ hf _ _ _ _ _ (by omega) (by omega) hw (lv_sub hl [0, 1, 2, 3] rfl)
  · have hf := ie hf c2
    refine lv_aload_n hx hb dX5_commitWhatMatches_49 rfl (lv_at hl 0 rfl) ?_
    obtain ⟨z3, e3, hf⟩ := ob hf
    refine r_gR C hw e3 ck5 rfl (by decide) w208 dX5_commitWhatMatches_50 ?_
    cases z3 with
    | none =>
      have hf := on_n hf
      cases hf
    | some a4 =>
      have hf := on_s hf
      refine W.eq (g2 := F0 m 53 ls [.ref a4]) rfl ?_
      refine lv_iload_n hx hb dX5_commitWhatMatches_53 rfl (lv_at hl 3 rfl) ?_
      obtain ⟨z5, e5, hf⟩ := ob hf
      refine r_iald C hw e5 dX5_commitWhatMatches_54 ?_
      refine lv_iload_n hx hb dX5_commitWhatMatches_55 rfl (lv_at hl 2 rfl) ?_
      refine lv_icmp_le (tgt := 66) hx hb dX5_commitWhatMatches_56 (by decide) (fun c6 => ?_) (fun c6 => ?_)
      · have hf := ip hf c6
        exact bX5_commitWhatMatches_66 C hn hk6 _ _ _ _ _ _ hf _ _ _ _ _ (by omega) (by omega) hw (lv_sub hl [0, 1, 2, 3] rfl)
      · have hf := ie hf c6
        refine lv_aload_n hx hb dX5_commitWhatMatches_59 rfl (lv_at hl 0 rfl) ?_
        obtain ⟨z7, e7, hf⟩ := ob hf
        refine r_gR C hw e7 ck5 rfl (by decide) w208 dX5_commitWhatMatches_60 ?_
        cases z7 with
        | none =>
          have hf := on_n hf
          cases hf
        | some a8 =>
          have hf := on_s hf
          refine W.eq (g2 := F0 m 63 ls [.ref a8]) rfl ?_
          refine lv_iload_n hx hb dX5_commitWhatMatches_63 rfl (lv_at hl 3 rfl) ?_
          obtain ⟨z9, e9, hf⟩ := ob hf
          refine r_iald C hw e9 dX5_commitWhatMatches_64 ?_
          refine lv_istore_n (lv' := [(2, .int z9), (0, .ref x0), (1, .int x1), (3, .int x3)]) hx hb dX5_commitWhatMatches_65 rfl hl (by decide) rfl (fun ls hl => ?_)
          exact bX5_commitWhatMatches_66 C hn hk6 _ _ _ _ _ _ hf _ _ _ _ _ (by omega) (by omega) hw (lv_sub hl [1, 2, 0, 3] rfl)
set_option maxRecDepth 100000 in
set_option maxHeartbeats 4000000 in
theorem bX5_commitWhatMatches_6_body {D : va_G} {cy : Nat → ClassId} {s0 : Nat} {p : Program} {l : Launch} {e : Env} {s : State} {m : MethodId} {args : Array Value} {below : List Frame} {meth : Method} {c : Code} (C : CX D cy s0 p s m args meth c cX5_commitWhatMatches 4 RX5 none) (hn : meth.name = "commitWhatMatches") {k6 : Nat → Int32 → Int32 → Int32 → Hp → Option (Unit × Hp)} (hk6 : ∀ (x0 : Nat) (x1 : Int32) (x2 : Int32) (x3 : Int32) (h : Hp) (r : Unit × Hp), k6 x0 x1 x2 x3 h = some r → pX5_commitWhatMatches_6 D cy s0 p l e s m args below meth c r x0 x1 x2 x3 h) : ∀ (x0 : Nat) (x1 : Int32) (x2 : Int32) (x3 : Int32) (h : Hp) (r : Unit × Hp), fX5_commitWhatMatches_6_body k6 x0 x1 x2 x3 h = some r → pX5_commitWhatMatches_6 D cy s0 p l e s m args below meth c r x0 x1 x2 x3 h := by
  intro x0 x1 x2 x3 h ⟨rv, rh⟩ hf H locs ls cells slots hc hs hw hl
  unfold fX5_commitWhatMatches_6_body at hf
  have hx := C.1
  have hb := C.2.1
  refine lv_iload_n hx hb dX5_commitWhatMatches_6 rfl (lv_at hl 3 rfl) ?_
  refine lv_iconst (v := (5 : Int32)) hx hb dX5_commitWhatMatches_7 (by decide) ?_
  refine lv_icmp_ge (tgt := 72) hx hb dX5_commitWhatMatches_8 (by decide) (fun c1 => ?_) (fun c1 => ?_)
  · have hf := ip hf c1
    refine lv_iload_n hx hb dX5_commitWhatMatches_72 rfl (lv_at hl 2 rfl) ?_
    refine lv_aload_n hx hb dX5_commitWhatMatches_73 rfl (lv_at hl 0 rfl) ?_
    obtain ⟨z2, e2, hf⟩ := ob hf
    refine r_gR C hw e2 ck5 rfl (by decide) w189 dX5_commitWhatMatches_74 ?_
    cases z2 with
    | none =>
      have hf := on_n hf
      cases hf
    | some a3 =>
      have hf := on_s hf
      refine W.eq (g2 := F0 m 77 ls [.ref a3, .int x2]) rfl ?_
      obtain ⟨z4, e4, hf⟩ := ob hf
      refine r_gI C hw e4 ck1 rfl (by decide) w166 dX5_commitWhatMatches_77 ?_
      refine va_mmin hx hb (by rw [C.2.2.1]; exact hl.1.symm) C.2.2.2.1 (C.2.2.2.2.1 _ w583) (C.2.2.2.2.1 _ w566) (C.2.2.2.2.1 _ w18) (C.2.2.2.2.1 _ w567) (Nat.le_of_ble_eq_true rfl) (Nat.le_of_ble_eq_true rfl) (by show _ ≤ 0; omega) (by show _ ≤ 0; omega) dX5_commitWhatMatches_80 ?_
      refine W.eq (g2 := F0 m 83 ls [.int (mn x2 z4)]) rfl ?_
      refine lv_istore_n (lv' := [(3, .int (mn x2 z4)), (0, .ref x0), (1, .int x1), (2, .int x2)]) hx hb dX5_commitWhatMatches_83 rfl hl (by decide) rfl (fun ls hl => ?_)
      exact bX5_commitWhatMatches_84 C hn LF _ _ _ _ hf _ _ _ _ _ (by omega) (by omega) hw (lv_sub hl [1, 0] rfl)
  · have hf := ie hf c1
    refine lv_iload_n hx hb dX5_commitWhatMatches_11 rfl (lv_at hl 3 rfl) ?_
    refine lv_aload_n hx hb dX5_commitWhatMatches_12 rfl (lv_at hl 0 rfl) ?_
    obtain ⟨z5, e5, hf⟩ := ob hf
    refine r_gI C hw e5 ck5 rfl (by decide) w201 dX5_commitWhatMatches_13 ?_
    refine lv_icmp_eq (tgt := 41) hx hb dX5_commitWhatMatches_16 (by decide) (fun c6 => ?_) (fun c6 => ?_)
    · have hf := ip hf c6
      exact bX5_commitWhatMatches_41 C hn hk6 _ _ _ _ _ _ hf _ _ _ _ _ (by omega) (by omega) hw (lv_sub hl [0, 1, 2, 3] rfl)
    · have hf := ie hf c6
      refine lv_aload_n hx hb dX5_commitWhatMatches_19 rfl (lv_at hl 0 rfl) ?_
      obtain ⟨z7, e7, hf⟩ := ob hf
      refine r_gR C hw e7 ck5 rfl (by decide) w208 dX5_commitWhatMatches_20 ?_
      cases z7 with
      | none =>
        have hf := on_n hf
        cases hf
      | some a8 =>
        have hf := on_s hf
        refine W.eq (g2 := F0 m 23 ls [.ref a8]) rfl ?_
        refine lv_iload_n hx hb dX5_commitWhatMatches_23 rfl (lv_at hl 3 rfl) ?_
        obtain ⟨z9, e9, hf⟩ := ob hf
        refine r_iald C hw e9 dX5_commitWhatMatches_24 ?_
        refine lv_iload_n hx hb dX5_commitWhatMatches_25 rfl (lv_at hl 1 rfl) ?_
        refine lv_icmp_le (tgt := 41) hx hb dX5_commitWhatMatches_26 (by decide) (fun c10 => ?_) (fun c10 => ?_)
        · have hf := ip hf c10
          exact bX5_commitWhatMatches_41 C hn hk6 _ _ _ _ _ _ hf _ _ _ _ _ (by omega) (by omega) hw (lv_sub hl [0, 1, 2, 3] rfl)
        · have hf := ie hf c10
          refine lv_iload_n hx hb dX5_commitWhatMatches_29 rfl (lv_at hl 1 rfl) ?_
          refine lv_istore_n (lv' := [(2, .int x1), (0, .ref x0), (1, .int x1), (3, .int x3)]) hx hb dX5_commitWhatMatches_30 rfl hl (by decide) rfl (fun ls hl => ?_)
          refine lv_aload_n hx hb dX5_commitWhatMatches_31 rfl (lv_at hl 1 rfl) ?_
          obtain ⟨z11, e11, hf⟩ := ob hf
          refine r_gR C hw e11 ck5 rfl (by decide) w208 dX5_commitWhatMatches_32 ?_
          cases z11 with
          | none =>
            have hf := on_n hf
            cases hf
          | some a12 =>
            have hf := on_s hf
            refine W.eq (g2 := F0 m 35 ls [.ref a12]) rfl ?_
            refine lv_iload_n hx hb dX5_commitWhatMatches_35 rfl (lv_at hl 3 rfl) ?_
            obtain ⟨z13, e13, hf⟩ := ob hf
            refine r_iald C hw e13 dX5_commitWhatMatches_36 ?_
            refine lv_istore_n (lv' := [(1, .int z13), (2, .int x1), (0, .ref x0), (3, .int x3)]) hx hb dX5_commitWhatMatches_37 rfl hl (by decide) rfl (fun ls hl => ?_)
            refine lv_goto (tgt := 66) hx hb dX5_commitWhatMatches_38 (by decide) ?_
            exact bX5_commitWhatMatches_66 C hn hk6 _ _ _ _ _ _ hf _ _ _ _ _ (by omega) (by omega) hw (lv_sub hl [2, 0, 1, 3] rfl)
set_option maxRecDepth 100000 in
set_option maxHeartbeats 4000000 in
theorem bX5_commitWhatMatches_6 {D : va_G} {cy : Nat → ClassId} {s0 : Nat} {p : Program} {l : Launch} {e : Env} {s : State} {m : MethodId} {args : Array Value} {below : List Frame} {meth : Method} {c : Code} (C : CX D cy s0 p s m args meth c cX5_commitWhatMatches 4 RX5 none) (hn : meth.name = "commitWhatMatches") : ∀ (n : Nat) (x0 : Nat) (x1 : Int32) (x2 : Int32) (x3 : Int32) (h : Hp) (r : Unit × Hp), fX5_commitWhatMatches_6 n x0 x1 x2 x3 h = some r → pX5_commitWhatMatches_6 D cy s0 p l e s m args below meth c r x0 x1 x2 x3 h := by
  intro n
  induction n with
  | zero => intro x0 x1 x2 x3 h r hf; exact absurd hf (fun q => by cases q)
  | succ n ih => exact bX5_commitWhatMatches_6_body C hn ih
set_option maxRecDepth 100000 in
set_option maxHeartbeats 4000000 in
theorem bX5_commitWhatMatches {D : va_G} {cy : Nat → ClassId} {s0 : Nat} {p : Program} {l : Launch} {e : Env} {s : State} {m : MethodId} {args : Array Value} {below : List Frame} {meth : Method} {c : Code} (C : CX D cy s0 p s m args meth c cX5_commitWhatMatches 4 RX5 none) (hn : meth.name = "commitWhatMatches") : ∀ (x0 : Nat) (h : Hp) (r : Unit × Hp), fX5_commitWhatMatches x0 h = some r → pX5_commitWhatMatches D cy s0 p l e s m args below meth c r x0 h := by
  intro x0 h ⟨rv, rh⟩ hf H locs ls cells slots hc hs hw hl
  unfold fX5_commitWhatMatches at hf
  have hx := C.1
  have hb := C.2.1
  refine lv_iconst (v := (0 : Int32)) hx hb dX5_commitWhatMatches_0 (by decide) ?_
  refine lv_istore_n (lv' := [(1, .int (0 : Int32)), (0, .ref x0)]) hx hb dX5_commitWhatMatches_1 rfl hl (by decide) rfl (fun ls hl => ?_)
  refine lv_iconst (v := (0 : Int32)) hx hb dX5_commitWhatMatches_2 (by decide) ?_
  refine lv_istore_n (lv' := [(2, .int (0 : Int32)), (1, .int (0 : Int32)), (0, .ref x0)]) hx hb dX5_commitWhatMatches_3 rfl hl (by decide) rfl (fun ls hl => ?_)
  refine lv_iconst (v := (0 : Int32)) hx hb dX5_commitWhatMatches_4 (by decide) ?_
  refine lv_istore_n (lv' := [(3, .int (0 : Int32)), (2, .int (0 : Int32)), (1, .int (0 : Int32)), (0, .ref x0)]) hx hb dX5_commitWhatMatches_5 rfl hl (by decide) rfl (fun ls hl => ?_)
  exact bX5_commitWhatMatches_6 C hn LF _ _ _ _ _ _ hf _ _ _ _ _ (by omega) (by omega) hw (lv_sub hl [3, 2, 1, 0] rfl)
theorem kXX5_commitWhatMatches : MK yX5_commitWhatMatches cX5_commitWhatMatches 4 none 0 := ⟨w592, w6, by decide +kernel⟩
theorem mX5_commitWhatMatches {D : va_G} {cy : Nat → ClassId} {s0 : Nat} {l : Launch} {x0 : Nat} {h : Hp} {v : Unit} {h1 : Hp} (hf : fX5_commitWhatMatches x0 h = some (v, h1)) : MT D cy s0 l yX5_commitWhatMatches cX5_commitWhatMatches 4 none rX5_commitWhatMatches [.ref x0] h none h1 := by
  refine MT.of (by decide +kernel) (Nat.le_of_ble_eq_true rfl) ?_
  intro p e s m below meth c H locs ls C hn hw hl
  exact bX5_commitWhatMatches C hn _ _ _ hf _ _ _ _ _ (Nat.le_of_ble_eq_true rfl) (Nat.le_of_ble_eq_true rfl) hw hl
abbrev rX5_field : Room := { frames := 2, cells := 0, slots := 0, locals := 43 }
abbrev pX5_field (D : va_G) (cy : Nat → ClassId) (s0 : Nat) (p : Program) (l : Launch) (e : Env) (s : State) (m : MethodId) (args : Array Value) (below : List Frame) (meth : Method) (c : Code) (r : Int32 × Hp) (x0 : Nat) (x1 : Int32) (h : Hp) : Prop := ∀ (H : Heap) (locs : List Loc) (ls : Array Slot) (cells slots : Nat), cells + (0) ≤ 0 → slots + (0) ≤ 0 → WS D cy s0 s h H locs → lv_has ls 2 [(0, .ref x0), (1, .int x1)] → W p l e rX5_field s m args below meth c H locs cells slots (MQ below (QQ D cy s0 (some (.int r.1)) r.2) args s 0 0 (fun q => s0 ≤ q)) (F0 m 0 ls [])
set_option maxRecDepth 100000 in
set_option maxHeartbeats 4000000 in
theorem bX5_field {D : va_G} {cy : Nat → ClassId} {s0 : Nat} {p : Program} {l : Launch} {e : Env} {s : State} {m : MethodId} {args : Array Value} {below : List Frame} {meth : Method} {c : Code} (C : CX D cy s0 p s m args meth c cX5_field 2 RX5 (some .int)) (hn : meth.name = "field") : ∀ (x0 : Nat) (x1 : Int32) (h : Hp) (r : Int32 × Hp), fX5_field x0 x1 h = some r → pX5_field D cy s0 p l e s m args below meth c r x0 x1 h := by
  intro x0 x1 h ⟨rv, rh⟩ hf H locs ls cells slots hc hs hw hl
  unfold fX5_field at hf
  have hx := C.1
  have hb := C.2.1
  refine lv_iload_n hx hb dX5_field_0 rfl (lv_at hl 1 rfl) ?_
  by_cases n29 : x1 = (0 : Int32)
  · have hf := ip hf n29
    refine lv_tableIn (tgt := 44) (off := 43) hx hb dX5_field_1 (by rw [n29]; decide) (by rw [n29]; decide) (by rw [n29]; rfl) (by decide) ?_
    refine lv_aload_n hx hb dX5_field_44 rfl (lv_at hl 0 rfl) ?_
    obtain ⟨z11, e11, hf⟩ := ob hf
    refine r_gI C hw e11 ck5 rfl (by decide) w195 dX5_field_45 ?_
    refine lv_if_eq (tgt := 55) hx hb dX5_field_48 (by decide) (fun c12 => ?_) (fun c12 => ?_)
    · have hf := ip hf c12
      refine lv_iconst (v := (0 : Int32)) hx hb dX5_field_55 (by decide) ?_
      obtain ⟨rfl, rfl⟩ := sp hf
      exact r_iret C hw rfl rfl (by omega) (by omega) dX5_field_56
    · have hf := ie hf c12
      refine lv_iconst (v := (1 : Int32)) hx hb dX5_field_51 (by decide) ?_
      refine lv_goto (tgt := 56) hx hb dX5_field_52 (by decide) ?_
      obtain ⟨rfl, rfl⟩ := sp hf
      exact r_iret C hw rfl rfl (by omega) (by omega) dX5_field_56
  · have hf := ie hf n29
    by_cases n30 : x1 = (1 : Int32)
    · have hf := ip hf n30
      refine lv_tableIn (tgt := 57) (off := 56) hx hb dX5_field_1 (by rw [n30]; decide) (by rw [n30]; decide) (by rw [n30]; rfl) (by decide) ?_
      refine lv_aload_n hx hb dX5_field_57 rfl (lv_at hl 0 rfl) ?_
      obtain ⟨z13, e13, hf⟩ := ob hf
      refine r_gR C hw e13 ck5 rfl (by decide) w189 dX5_field_58 ?_
      cases z13 with
      | none =>
        have hf := on_n hf
        cases hf
      | some a14 =>
        have hf := on_s hf
        refine W.eq (g2 := F0 m 61 ls [.ref a14]) rfl ?_
        obtain ⟨z15, e15, hf⟩ := ob hf
        refine r_gI C hw e15 ck1 rfl (by decide) w162 dX5_field_61 ?_
        obtain ⟨rfl, rfl⟩ := sp hf
        exact r_iret C hw rfl rfl (by omega) (by omega) dX5_field_64
    · have hf := ie hf n30
      by_cases n31 : x1 = (2 : Int32)
      · have hf := ip hf n31
        refine lv_tableIn (tgt := 65) (off := 64) hx hb dX5_field_1 (by rw [n31]; decide) (by rw [n31]; decide) (by rw [n31]; rfl) (by decide) ?_
        refine lv_aload_n hx hb dX5_field_65 rfl (lv_at hl 0 rfl) ?_
        obtain ⟨z16, e16, hf⟩ := ob hf
        refine r_gR C hw e16 ck5 rfl (by decide) w189 dX5_field_66 ?_
        cases z16 with
        | none =>
          have hf := on_n hf
          cases hf
        | some a17 =>
          have hf := on_s hf
          refine W.eq (g2 := F0 m 69 ls [.ref a17]) rfl ?_
          obtain ⟨z18, e18, hf⟩ := ob hf
          refine r_gI C hw e18 ck1 rfl (by decide) w165 dX5_field_69 ?_
          obtain ⟨rfl, rfl⟩ := sp hf
          exact r_iret C hw rfl rfl (by omega) (by omega) dX5_field_72
      · have hf := ie hf n31
        by_cases n32 : x1 = (3 : Int32)
        · have hf := ip hf n32
          refine lv_tableIn (tgt := 73) (off := 72) hx hb dX5_field_1 (by rw [n32]; decide) (by rw [n32]; decide) (by rw [n32]; rfl) (by decide) ?_
          refine lv_aload_n hx hb dX5_field_73 rfl (lv_at hl 0 rfl) ?_
          obtain ⟨z19, e19, hf⟩ := ob hf
          refine r_gI C hw e19 ck5 rfl (by decide) w197 dX5_field_74 ?_
          obtain ⟨rfl, rfl⟩ := sp hf
          exact r_iret C hw rfl rfl (by omega) (by omega) dX5_field_77
        · have hf := ie hf n32
          by_cases n33 : x1 = (4 : Int32)
          · have hf := ip hf n33
            refine lv_tableIn (tgt := 78) (off := 77) hx hb dX5_field_1 (by rw [n33]; decide) (by rw [n33]; decide) (by rw [n33]; rfl) (by decide) ?_
            refine lv_aload_n hx hb dX5_field_78 rfl (lv_at hl 0 rfl) ?_
            obtain ⟨z20, e20, hf⟩ := ob hf
            refine r_gR C hw e20 ck5 rfl (by decide) w189 dX5_field_79 ?_
            cases z20 with
            | none =>
              have hf := on_n hf
              cases hf
            | some a21 =>
              have hf := on_s hf
              refine W.eq (g2 := F0 m 82 ls [.ref a21]) rfl ?_
              obtain ⟨z22, e22, hf⟩ := ob hf
              refine r_gR C hw e22 ck1 rfl (by decide) w171 dX5_field_82 ?_
              cases z22 with
              | none =>
                have hf := on_n hf
                cases hf
              | some a23 =>
                have hf := on_s hf
                refine W.eq (g2 := F0 m 85 ls [.ref a23]) rfl ?_
                obtain ⟨z24, e24, hf⟩ := ob hf
                refine r_gI C hw e24 ck6 rfl (by decide) w135 dX5_field_85 ?_
                obtain ⟨rfl, rfl⟩ := sp hf
                exact r_iret C hw rfl rfl (by omega) (by omega) dX5_field_88
          · have hf := ie hf n33
            by_cases n34 : x1 = (5 : Int32)
            · have hf := ip hf n34
              refine lv_tableIn (tgt := 89) (off := 88) hx hb dX5_field_1 (by rw [n34]; decide) (by rw [n34]; decide) (by rw [n34]; rfl) (by decide) ?_
              refine lv_aload_n hx hb dX5_field_89 rfl (lv_at hl 0 rfl) ?_
              obtain ⟨z25, e25, hf⟩ := ob hf
              refine r_gR C hw e25 ck5 rfl (by decide) w189 dX5_field_90 ?_
              cases z25 with
              | none =>
                have hf := on_n hf
                cases hf
              | some a26 =>
                have hf := on_s hf
                refine W.eq (g2 := F0 m 93 ls [.ref a26]) rfl ?_
                obtain ⟨z27, e27, hf⟩ := ob hf
                refine r_gI C hw e27 ck1 rfl (by decide) w166 dX5_field_93 ?_
                obtain ⟨rfl, rfl⟩ := sp hf
                exact r_iret C hw rfl rfl (by omega) (by omega) dX5_field_96
            · have hf := ie hf n34
              by_cases n35 : x1 = (6 : Int32)
              · have hf := ip hf n35
                refine lv_tableIn (tgt := 97) (off := 96) hx hb dX5_field_1 (by rw [n35]; decide) (by rw [n35]; decide) (by rw [n35]; rfl) (by decide) ?_
                refine lv_aload_n hx hb dX5_field_97 rfl (lv_at hl 0 rfl) ?_
                obtain ⟨z28, e28, hf⟩ := ob hf
                refine r_gI C hw e28 ck5 rfl (by decide) w200 dX5_field_98 ?_
                obtain ⟨rfl, rfl⟩ := sp hf
                exact r_iret C hw rfl rfl (by omega) (by omega) dX5_field_101
              · have hf := ie hf n35
                refine lv_tableOut (tgt := 102) hx hb dX5_field_1 (tsw_out (x := x1) 0 [(0 : Int32), (1 : Int32), (2 : Int32), (3 : Int32), (4 : Int32), (5 : Int32), (6 : Int32)] (by decide) (List.forall_mem_cons.mpr ⟨n29, List.forall_mem_cons.mpr ⟨n30, List.forall_mem_cons.mpr ⟨n31, List.forall_mem_cons.mpr ⟨n32, List.forall_mem_cons.mpr ⟨n33, List.forall_mem_cons.mpr ⟨n34, List.forall_mem_cons.mpr ⟨n35, fun _ h9 => absurd h9 List.not_mem_nil⟩⟩⟩⟩⟩⟩⟩)) (by decide) ?_
                refine lv_aload_n hx hb dX5_field_102 rfl (lv_at hl 0 rfl) ?_
                obtain ⟨z1, e1, hf⟩ := ob hf
                refine r_gR C hw e1 ck5 rfl (by decide) w189 dX5_field_103 ?_
                cases z1 with
                | none =>
                  have hf := on_n hf
                  cases hf
                | some a2 =>
                  have hf := on_s hf
                  refine W.eq (g2 := F0 m 106 ls [.ref a2]) rfl ?_
                  refine lv_aload_n hx hb dX5_field_106 rfl (lv_at hl 0 rfl) ?_
                  obtain ⟨z3, e3, hf⟩ := ob hf
                  refine r_gR C hw e3 ck5 rfl (by decide) w189 dX5_field_107 ?_
                  cases z3 with
                  | none =>
                    have hf := on_n hf
                    cases hf
                  | some a4 =>
                    have hf := on_s hf
                    refine W.eq (g2 := F0 m 110 ls [.ref a4, .ref a2]) rfl ?_
                    obtain ⟨z5, e5, hf⟩ := ob hf
                    refine r_gI C hw e5 ck1 rfl (by decide) w166 dX5_field_110 ?_
                    obtain ⟨kb6, hf⟩ := ig hf
                    obtain ⟨z6, h6, e6, hf⟩ := ob2 hf
                    refine r_callV C hw (mX1_termAt e6) kXX1_termAt ck1 rfl kb6 w390 w391 w392 ⟨Nat.le_of_ble_eq_true rfl, Nat.le_of_ble_eq_true rfl⟩ rfl hl.1 (rest := []) rfl (Nat.le_of_ble_eq_true rfl) dX5_field_113 (mc := 0) (ms := 0) rfl rfl ⟨by show _ + 0 ≤ 0; omega, by show _ + 0 ≤ 0; omega⟩ (fun H locs hw => ?_)
                    refine W.eq (g2 := F0 m 116 ls [.int z6]) rfl ?_
                    obtain ⟨rfl, rfl⟩ := sp hf
                    exact r_iret C hw rfl rfl (by omega) (by omega) dX5_field_116
theorem kXX5_field : MK yX5_field cX5_field 2 (some .int) 1 := ⟨w924, w6, by decide +kernel⟩
theorem mX5_field {D : va_G} {cy : Nat → ClassId} {s0 : Nat} {l : Launch} {x0 : Nat} {x1 : Int32} {h : Hp} {v : Int32} {h1 : Hp} (hf : fX5_field x0 x1 h = some (v, h1)) : MT D cy s0 l yX5_field cX5_field 2 (some .int) rX5_field [.ref x0, .int x1] h (some (.int v)) h1 := by
  refine MT.of (by decide +kernel) (Nat.le_of_ble_eq_true rfl) ?_
  intro p e s m below meth c H locs ls C hn hw hl
  exact bX5_field C hn _ _ _ _ hf _ _ _ _ _ (Nat.le_of_ble_eq_true rfl) (Nat.le_of_ble_eq_true rfl) hw hl
abbrev rX5_goDown : Room := { frames := 0, cells := 0, slots := 0, locals := 0 }
abbrev pX5_goDown (D : va_G) (cy : Nat → ClassId) (s0 : Nat) (p : Program) (l : Launch) (e : Env) (s : State) (m : MethodId) (args : Array Value) (below : List Frame) (meth : Method) (c : Code) (r : Unit × Hp) (x0 : Nat) (h : Hp) : Prop := ∀ (H : Heap) (locs : List Loc) (ls : Array Slot) (cells slots : Nat), cells + (0) ≤ 0 → slots + (0) ≤ 0 → WS D cy s0 s h H locs → lv_has ls 1 [(0, .ref x0)] → W p l e rX5_goDown s m args below meth c H locs cells slots (MQ below (QQ D cy s0 none r.2) args s 0 0 (fun q => s0 ≤ q)) (F0 m 0 ls [])
set_option maxRecDepth 100000 in
set_option maxHeartbeats 4000000 in
theorem bX5_goDown {D : va_G} {cy : Nat → ClassId} {s0 : Nat} {p : Program} {l : Launch} {e : Env} {s : State} {m : MethodId} {args : Array Value} {below : List Frame} {meth : Method} {c : Code} (C : CX D cy s0 p s m args meth c cX5_goDown 1 RX5 none) (hn : meth.name = "goDown") : ∀ (x0 : Nat) (h : Hp) (r : Unit × Hp), fX5_goDown x0 h = some r → pX5_goDown D cy s0 p l e s m args below meth c r x0 h := by
  intro x0 h ⟨rv, rh⟩ hf H locs ls cells slots hc hs hw hl
  unfold fX5_goDown at hf
  have hx := C.1
  have hb := C.2.1
  refine lv_aload_n hx hb dX5_goDown_0 rfl (lv_at hl 0 rfl) ?_
  refine lv_iconst (v := (0 : Int32)) hx hb dX5_goDown_1 (by decide) ?_
  obtain ⟨h1, e1, hf⟩ := ob hf
  refine r_pZ C hw e1 ck5 rfl (by decide) rfl w195 (Or.inl rfl) dX5_goDown_2 (fun H locs hw => ?_)
  refine lv_aload_n hx hb dX5_goDown_5 rfl (lv_at hl 0 rfl) ?_
  refine lv_iconst (v := (0 : Int32)) hx hb dX5_goDown_6 (by decide) ?_
  obtain ⟨h2, e2, hf⟩ := ob hf
  refine r_pI C hw e2 ck5 rfl (by decide) rfl w197 (Or.inl rfl) dX5_goDown_7 (fun H locs hw => ?_)
  refine lv_aload_n hx hb dX5_goDown_10 rfl (lv_at hl 0 rfl) ?_
  refine lv_iconst (v := (0 : Int32)) hx hb dX5_goDown_11 (by decide) ?_
  obtain ⟨h3, e3, hf⟩ := ob hf
  refine r_pI C hw e3 ck5 rfl (by decide) rfl w204 (Or.inl rfl) dX5_goDown_12 (fun H locs hw => ?_)
  refine lv_aload_n hx hb dX5_goDown_15 rfl (lv_at hl 0 rfl) ?_
  refine lv_aload_n hx hb dX5_goDown_16 rfl (lv_at hl 0 rfl) ?_
  obtain ⟨z4, e4, hf⟩ := ob hf
  refine r_gR C hw e4 ck5 rfl (by decide) w189 dX5_goDown_17 ?_
  cases z4 with
  | none =>
    have hf := on_n hf
    cases hf
  | some a5 =>
    have hf := on_s hf
    refine W.eq (g2 := F0 m 20 ls [.ref a5, .ref x0]) rfl ?_
    obtain ⟨z6, e6, hf⟩ := ob hf
    refine r_gR C hw e6 ck1 rfl (by decide) w171 dX5_goDown_20 ?_
    cases z6 with
    | none =>
      have hf := on_n hf
      cases hf
    | some a7 =>
      have hf := on_s hf
      refine W.eq (g2 := F0 m 23 ls [.ref a7, .ref x0]) rfl ?_
      obtain ⟨z8, e8, hf⟩ := ob hf
      refine r_gI C hw e8 ck6 rfl (by decide) w135 dX5_goDown_23 ?_
      obtain ⟨h9, e9, hf⟩ := ob hf
      refine r_pI C hw e9 ck5 rfl (by decide) rfl w200 (Or.inl rfl) dX5_goDown_26 (fun H locs hw => ?_)
      refine lv_aload_n hx hb dX5_goDown_29 rfl (lv_at hl 0 rfl) ?_
      refine lv_aload_n hx hb dX5_goDown_30 rfl (lv_at hl 0 rfl) ?_
      obtain ⟨z10, e10, hf⟩ := ob hf
      refine r_gI C hw e10 ck5 rfl (by decide) w200 dX5_goDown_31 ?_
      obtain ⟨h11, e11, hf⟩ := ob hf
      refine r_pI C hw e11 ck5 rfl (by decide) rfl w205 (Or.inl rfl) dX5_goDown_34 (fun H locs hw => ?_)
      refine lv_aload_n hx hb dX5_goDown_37 rfl (lv_at hl 0 rfl) ?_
      obtain ⟨z12, e12, hf⟩ := ob hf
      refine r_gR C hw e12 ck5 rfl (by decide) w189 dX5_goDown_38 ?_
      cases z12 with
      | none =>
        have hf := on_n hf
        cases hf
      | some a13 =>
        have hf := on_s hf
        refine W.eq (g2 := F0 m 41 ls [.ref a13]) rfl ?_
        refine lv_iconst (v := (-1 : Int32)) hx hb dX5_goDown_41 (by decide) ?_
        obtain ⟨h14, e14, hf⟩ := ob hf
        refine r_pI C hw e14 ck1 rfl (by decide) rfl w174 (Or.inl rfl) dX5_goDown_42 (fun H locs hw => ?_)
        obtain ⟨rfl, rfl⟩ := sp hf
        exact r_vret C hw rfl (by omega) (by omega) dX5_goDown_45
theorem kXX5_goDown : MK yX5_goDown cX5_goDown 1 none 0 := ⟨w389, w6, by decide +kernel⟩
theorem mX5_goDown {D : va_G} {cy : Nat → ClassId} {s0 : Nat} {l : Launch} {x0 : Nat} {h : Hp} {v : Unit} {h1 : Hp} (hf : fX5_goDown x0 h = some (v, h1)) : MT D cy s0 l yX5_goDown cX5_goDown 1 none rX5_goDown [.ref x0] h none h1 := by
  refine MT.of (by decide +kernel) (Nat.le_of_ble_eq_true rfl) ?_
  intro p e s m below meth c H locs ls C hn hw hl
  exact bX5_goDown C hn _ _ _ hf _ _ _ _ _ (Nat.le_of_ble_eq_true rfl) (Nat.le_of_ble_eq_true rfl) hw hl
abbrev rX5_sendTo : Room := { frames := 2, cells := 2, slots := 13, locals := 56 }
abbrev pX5_sendTo (D : va_G) (cy : Nat → ClassId) (s0 : Nat) (p : Program) (l : Launch) (e : Env) (s : State) (m : MethodId) (args : Array Value) (below : List Frame) (meth : Method) (c : Code) (r : Unit × Hp) (x0 : Nat) (x1 : Int32) (h : Hp) : Prop := ∀ (H : Heap) (locs : List Loc) (ls : Array Slot) (cells slots : Nat), cells + (2) ≤ 2 → slots + (13) ≤ 13 → WS D cy s0 s h H locs → lv_has ls 5 [(0, .ref x0), (1, .int x1)] → W p l e rX5_sendTo s m args below meth c H locs cells slots (MQ below (QQ D cy s0 none r.2) args s 2 13 (fun q => s0 ≤ q)) (F0 m 0 ls [])
set_option maxRecDepth 100000 in
set_option maxHeartbeats 4000000 in
theorem bX5_sendTo {D : va_G} {cy : Nat → ClassId} {s0 : Nat} {p : Program} {l : Launch} {e : Env} {s : State} {m : MethodId} {args : Array Value} {below : List Frame} {meth : Method} {c : Code} (C : CX D cy s0 p s m args meth c cX5_sendTo 5 RX5 none) (hn : meth.name = "sendTo") : ∀ (x0 : Nat) (x1 : Int32) (h : Hp) (r : Unit × Hp), fX5_sendTo x0 x1 h = some r → pX5_sendTo D cy s0 p l e s m args below meth c r x0 x1 h := by
  intro x0 x1 h ⟨rv, rh⟩ hf H locs ls cells slots hc hs hw hl
  unfold fX5_sendTo at hf
  have hx := C.1
  have hb := C.2.1
  refine lv_aload_n hx hb dX5_sendTo_0 rfl (lv_at hl 0 rfl) ?_
  obtain ⟨z1, e1, hf⟩ := ob hf
  refine r_gR C hw e1 ck5 rfl (by decide) w207 dX5_sendTo_1 ?_
  cases z1 with
  | none =>
    have hf := on_n hf
    cases hf
  | some a2 =>
    have hf := on_s hf
    refine W.eq (g2 := F0 m 4 ls [.ref a2]) rfl ?_
    refine lv_iload_n hx hb dX5_sendTo_4 rfl (lv_at hl 1 rfl) ?_
    obtain ⟨z3, e3, hf⟩ := ob hf
    refine r_iald C hw e3 dX5_sendTo_5 ?_
    refine lv_iconst (v := (1 : Int32)) hx hb dX5_sendTo_6 (by decide) ?_
    refine lv_isub hx hb dX5_sendTo_7 ?_
    refine lv_istore_n (lv' := [(2, .int (z3 - (1 : Int32))), (0, .ref x0), (1, .int x1)]) hx hb dX5_sendTo_8 rfl hl (by decide) rfl (fun ls hl => ?_)
    refine lv_aload_n hx hb dX5_sendTo_9 rfl (lv_at hl 1 rfl) ?_
    obtain ⟨z4, e4, hf⟩ := ob hf
    refine r_gR C hw e4 ck5 rfl (by decide) w189 dX5_sendTo_10 ?_
    cases z4 with
    | none =>
      have hf := on_n hf
      cases hf
    | some a5 =>
      have hf := on_s hf
      refine W.eq (g2 := F0 m 13 ls [.ref a5]) rfl ?_
      obtain ⟨z6, e6, hf⟩ := ob hf
      refine r_gR C hw e6 ck1 rfl (by decide) w171 dX5_sendTo_13 ?_
      cases z6 with
      | none =>
        have hf := on_n hf
        cases hf
      | some a7 =>
        have hf := on_s hf
        refine W.eq (g2 := F0 m 16 ls [.ref a7]) rfl ?_
        refine lv_astore_n (lv' := [(3, .ref a7), (2, .int (z3 - (1 : Int32))), (0, .ref x0), (1, .int x1)]) hx hb dX5_sendTo_16 rfl hl (by decide) rfl (fun ls hl => ?_)
        refine lv_iload_n hx hb dX5_sendTo_17 rfl (lv_at hl 1 rfl) ?_
        refine lv_aload_n hx hb dX5_sendTo_18 rfl (lv_at hl 0 rfl) ?_
        obtain ⟨z8, e8, hf⟩ := ob hf
        refine r_gI C hw e8 ck6 rfl (by decide) w135 dX5_sendTo_19 ?_
        refine lv_icmp_ge (tgt := 71) hx hb dX5_sendTo_22 (by decide) (fun c9 => ?_) (fun c9 => ?_)
        · have hf := ip hf c9
          obtain ⟨h10, e10, hf⟩ := ob hf
          refine r_newN C hw e10 ck4 w398 (by show _ + 1 ≤ 2; omega) (by show _ + 9 ≤ 13; omega) dX5_sendTo_71 (fun H hw => ?_)
          refine lv_dup hx hb dX5_sendTo_74 rfl ?_
          refine lv_iconst (v := (2 : Int32)) hx hb dX5_sendTo_75 (by decide) ?_
          refine lv_aload_n hx hb dX5_sendTo_76 rfl (lv_at hl 2 rfl) ?_
          obtain ⟨z11, e11, hf⟩ := ob hf
          refine r_gI C hw e11 ck5 rfl (by decide) w201 dX5_sendTo_77 ?_
          refine lv_iload_n hx hb dX5_sendTo_80 rfl (lv_at hl 3 rfl) ?_
          refine lv_aload_n hx hb dX5_sendTo_81 rfl (lv_at hl 2 rfl) ?_
          obtain ⟨z12, e12, hf⟩ := ob hf
          refine r_gR C hw e12 ck5 rfl (by decide) w189 dX5_sendTo_82 ?_
          cases z12 with
          | none =>
            have hf := on_n hf
            cases hf
          | some a13 =>
            have hf := on_s hf
            refine W.eq (g2 := F0 m 85 ls [.ref a13, .int x1, .int z11, .int (2 : Int32), .ref (hZ h), .ref (hZ h)]) rfl ?_
            obtain ⟨z14, e14, hf⟩ := ob hf
            refine r_gI C hw e14 ck1 rfl (by decide) w162 dX5_sendTo_85 ?_
            refine lv_iload_n hx hb dX5_sendTo_88 rfl (lv_at hl 1 rfl) ?_
            refine lv_aload_n hx hb dX5_sendTo_89 rfl (lv_at hl 2 rfl) ?_
            obtain ⟨z15, e15, hf⟩ := ob hf
            refine r_gR C hw e15 ck5 rfl (by decide) w189 dX5_sendTo_90 ?_
            cases z15 with
            | none =>
              have hf := on_n hf
              cases hf
            | some a16 =>
              have hf := on_s hf
              refine W.eq (g2 := F0 m 93 ls [.ref a16, .int (z3 - (1 : Int32)), .int z14, .int x1, .int z11, .int (2 : Int32), .ref (hZ h), .ref (hZ h)]) rfl ?_
              refine lv_iload_n hx hb dX5_sendTo_93 rfl (lv_at hl 1 rfl) ?_
              obtain ⟨kb17, hf⟩ := ig hf
              obtain ⟨z17, h17, e17, hf⟩ := ob2 hf
              refine r_callV C hw (mX1_termAt e17) kXX1_termAt ck1 rfl kb17 w390 w391 w392 ⟨Nat.le_of_ble_eq_true rfl, Nat.le_of_ble_eq_true rfl⟩ rfl hl.1 (rest := [.int (z3 - (1 : Int32)), .int z14, .int x1, .int z11, .int (2 : Int32), .ref (hZ h), .ref (hZ h)]) rfl (Nat.le_of_ble_eq_true rfl) dX5_sendTo_94 (mc := 0) (ms := 0) rfl rfl ⟨by show _ + 0 ≤ 2; omega, by show _ + 0 ≤ 13; omega⟩ (fun H locs hw => ?_)
              refine W.eq (g2 := F0 m 97 ls [.int z17, .int (z3 - (1 : Int32)), .int z14, .int x1, .int z11, .int (2 : Int32), .ref (hZ h), .ref (hZ h)]) rfl ?_
              obtain ⟨z18, h18, e18, hf⟩ := ob2 hf
              refine r_callI C hw (mX4_init e18) kXX4_init rfl w400 w401 ⟨Nat.le_of_ble_eq_true rfl, Nat.le_of_ble_eq_true rfl⟩ rfl hl.1 (rest := [.ref (hZ h)]) rfl (Nat.le_of_ble_eq_true rfl) dX5_sendTo_97 (mc := 0) (ms := 0) rfl rfl ⟨by show _ + 0 ≤ 2; omega, by show _ + 0 ≤ 13; omega⟩ (fun H locs hw => ?_)
              refine W.eq (g2 := F0 m 100 ls [.ref (hZ h)]) rfl ?_
              refine lv_astore (lv' := [(4, .ref (hZ h)), (3, .ref a7), (2, .int (z3 - (1 : Int32))), (0, .ref x0), (1, .int x1)]) hx hb dX5_sendTo_100 hl (by decide) rfl (fun ls hl => ?_)
              refine lv_aload hx hb dX5_sendTo_102 (lv_at hl 0 rfl) ?_
              refine lv_aload_n hx hb dX5_sendTo_104 rfl (lv_at hl 3 rfl) ?_
              obtain ⟨z19, e19, hf⟩ := ob hf
              refine r_gR C hw e19 ck5 rfl (by decide) w189 dX5_sendTo_105 ?_
              cases z19 with
              | none =>
                have hf := on_n hf
                cases hf
              | some a20 =>
                have hf := on_s hf
                refine W.eq (g2 := F0 m 108 ls [.ref a20, .ref (hZ h)]) rfl ?_
                refine lv_iload_n hx hb dX5_sendTo_108 rfl (lv_at hl 2 rfl) ?_
                obtain ⟨kb21, hf⟩ := ig hf
                obtain ⟨z21, h21, e21, hf⟩ := ob2 hf
                refine r_callV C hw (mX1_entriesBehind e21) kXX1_entriesBehind ck1 rfl kb21 w561 w562 w563 ⟨Nat.le_of_ble_eq_true rfl, Nat.le_of_ble_eq_true rfl⟩ rfl hl.1 (rest := [.ref (hZ h)]) rfl (Nat.le_of_ble_eq_true rfl) dX5_sendTo_109 (mc := 1) (ms := 4) rfl rfl ⟨by show _ + 1 ≤ 2; omega, by show _ + 4 ≤ 13; omega⟩ (fun H locs hw => ?_)
                cases z21 with
                | none =>
                  have hf := on_n hf
                  refine W.eq (g2 := F0 m 112 ls [.null, .ref (hZ h)]) rfl ?_
                  obtain ⟨h30, e30, hf⟩ := ob hf
                  refine r_pR C hw e30 rfl ck4 rfl (by decide) rfl rfl w418 (Or.inl rfl) dX5_sendTo_112 (fun H locs hw => ?_)
                  refine lv_aload hx hb dX5_sendTo_115 (lv_at hl 0 rfl) ?_
                  refine lv_aload_n hx hb dX5_sendTo_117 rfl (lv_at hl 3 rfl) ?_
                  obtain ⟨z31, e31, hf⟩ := ob hf
                  refine r_gI C hw e31 ck5 rfl (by decide) w200 dX5_sendTo_118 ?_
                  obtain ⟨h32, e32, hf⟩ := ob hf
                  refine r_pI C hw e32 ck4 rfl (by decide) rfl w420 (Or.inl rfl) dX5_sendTo_121 (fun H locs hw => ?_)
                  refine lv_aload_n hx hb dX5_sendTo_124 rfl (lv_at hl 3 rfl) ?_
                  obtain ⟨z33, e33, hf⟩ := ob hf
                  refine r_gR C hw e33 ck5 rfl (by decide) w202 dX5_sendTo_125 ?_
                  cases z33 with
                  | none =>
                    have hf := on_n hf
                    cases hf
                  | some a34 =>
                    have hf := on_s hf
                    refine W.eq (g2 := F0 m 128 ls [.ref a34]) rfl ?_
                    refine lv_aload hx hb dX5_sendTo_128 (lv_at hl 0 rfl) ?_
                    obtain ⟨kb35, hf⟩ := ig hf
                    obtain ⟨z35, h35, e35, hf⟩ := ob2 hf
                    refine r_callV C hw (mX3_send e35) kXX3_send ck3 rfl kb35 w441 w442 w443 ⟨Nat.le_of_ble_eq_true rfl, Nat.le_of_ble_eq_true rfl⟩ rfl hl.1 (rest := []) rfl (Nat.le_of_ble_eq_true rfl) dX5_sendTo_130 (mc := 0) (ms := 0) rfl rfl ⟨by show _ + 0 ≤ 2; omega, by show _ + 0 ≤ 13; omega⟩ (fun H locs hw => ?_)
                    refine W.eq (g2 := F0 m 133 ls []) rfl ?_
                    obtain ⟨rfl, rfl⟩ := sp hf
                    exact r_vret C hw rfl (by omega) (by omega) dX5_sendTo_133
                | some a22 =>
                  have hf := on_s hf
                  refine W.eq (g2 := F0 m 112 ls [.ref a22, .ref (hZ h)]) rfl ?_
                  obtain ⟨h23, e23, hf⟩ := ob hf
                  refine r_pR C hw e23 rfl ck4 rfl (by decide) rfl rfl w418 (Or.inl rfl) dX5_sendTo_112 (fun H locs hw => ?_)
                  refine lv_aload hx hb dX5_sendTo_115 (lv_at hl 0 rfl) ?_
                  refine lv_aload_n hx hb dX5_sendTo_117 rfl (lv_at hl 3 rfl) ?_
                  obtain ⟨z24, e24, hf⟩ := ob hf
                  refine r_gI C hw e24 ck5 rfl (by decide) w200 dX5_sendTo_118 ?_
                  obtain ⟨h25, e25, hf⟩ := ob hf
                  refine r_pI C hw e25 ck4 rfl (by decide) rfl w420 (Or.inl rfl) dX5_sendTo_121 (fun H locs hw => ?_)
                  refine lv_aload_n hx hb dX5_sendTo_124 rfl (lv_at hl 3 rfl) ?_
                  obtain ⟨z26, e26, hf⟩ := ob hf
                  refine r_gR C hw e26 ck5 rfl (by decide) w202 dX5_sendTo_125 ?_
                  cases z26 with
                  | none =>
                    have hf := on_n hf
                    cases hf
                  | some a27 =>
                    have hf := on_s hf
                    refine W.eq (g2 := F0 m 128 ls [.ref a27]) rfl ?_
                    refine lv_aload hx hb dX5_sendTo_128 (lv_at hl 0 rfl) ?_
                    obtain ⟨kb28, hf⟩ := ig hf
                    obtain ⟨z28, h28, e28, hf⟩ := ob2 hf
                    refine r_callV C hw (mX3_send e28) kXX3_send ck3 rfl kb28 w441 w442 w443 ⟨Nat.le_of_ble_eq_true rfl, Nat.le_of_ble_eq_true rfl⟩ rfl hl.1 (rest := []) rfl (Nat.le_of_ble_eq_true rfl) dX5_sendTo_130 (mc := 0) (ms := 0) rfl rfl ⟨by show _ + 0 ≤ 2; omega, by show _ + 0 ≤ 13; omega⟩ (fun H locs hw => ?_)
                    refine W.eq (g2 := F0 m 133 ls []) rfl ?_
                    obtain ⟨rfl, rfl⟩ := sp hf
                    exact r_vret C hw rfl (by omega) (by omega) dX5_sendTo_133
        · have hf := ie hf c9
          obtain ⟨h39, e39, hf⟩ := ob hf
          refine r_newN C hw e39 ck4 w398 (by show _ + 1 ≤ 2; omega) (by show _ + 9 ≤ 13; omega) dX5_sendTo_25 (fun H hw => ?_)
          refine lv_dup hx hb dX5_sendTo_28 rfl ?_
          refine lv_iconst (v := (5 : Int32)) hx hb dX5_sendTo_29 (by decide) ?_
          refine lv_aload_n hx hb dX5_sendTo_30 rfl (lv_at hl 2 rfl) ?_
          obtain ⟨z40, e40, hf⟩ := ob hf
          refine r_gI C hw e40 ck5 rfl (by decide) w201 dX5_sendTo_31 ?_
          refine lv_iload_n hx hb dX5_sendTo_34 rfl (lv_at hl 3 rfl) ?_
          refine lv_aload_n hx hb dX5_sendTo_35 rfl (lv_at hl 2 rfl) ?_
          obtain ⟨z41, e41, hf⟩ := ob hf
          refine r_gR C hw e41 ck5 rfl (by decide) w189 dX5_sendTo_36 ?_
          cases z41 with
          | none =>
            have hf := on_n hf
            cases hf
          | some a42 =>
            have hf := on_s hf
            refine W.eq (g2 := F0 m 39 ls [.ref a42, .int x1, .int z40, .int (5 : Int32), .ref (hZ h), .ref (hZ h)]) rfl ?_
            obtain ⟨z43, e43, hf⟩ := ob hf
            refine r_gI C hw e43 ck1 rfl (by decide) w162 dX5_sendTo_39 ?_
            refine lv_aload_n hx hb dX5_sendTo_42 rfl (lv_at hl 0 rfl) ?_
            obtain ⟨z44, e44, hf⟩ := ob hf
            refine r_gI C hw e44 ck6 rfl (by decide) w135 dX5_sendTo_43 ?_
            refine lv_aload_n hx hb dX5_sendTo_46 rfl (lv_at hl 0 rfl) ?_
            obtain ⟨z45, e45, hf⟩ := ob hf
            refine r_gI C hw e45 ck6 rfl (by decide) w138 dX5_sendTo_47 ?_
            obtain ⟨z46, h46, e46, hf⟩ := ob2 hf
            refine r_callI C hw (mX4_init e46) kXX4_init rfl w400 w401 ⟨Nat.le_of_ble_eq_true rfl, Nat.le_of_ble_eq_true rfl⟩ rfl hl.1 (rest := [.ref (hZ h)]) rfl (Nat.le_of_ble_eq_true rfl) dX5_sendTo_50 (mc := 0) (ms := 0) rfl rfl ⟨by show _ + 0 ≤ 2; omega, by show _ + 0 ≤ 13; omega⟩ (fun H locs hw => ?_)
            refine W.eq (g2 := F0 m 53 ls [.ref (hZ h)]) rfl ?_
            refine lv_astore (lv' := [(4, .ref (hZ h)), (3, .ref a7), (2, .int (z3 - (1 : Int32))), (0, .ref x0), (1, .int x1)]) hx hb dX5_sendTo_53 hl (by decide) rfl (fun ls hl => ?_)
            refine lv_aload hx hb dX5_sendTo_55 (lv_at hl 0 rfl) ?_
            refine lv_aload_n hx hb dX5_sendTo_57 rfl (lv_at hl 1 rfl) ?_
            obtain ⟨h47, e47, hf⟩ := ob hf
            refine r_pR C hw e47 rfl ck4 rfl (by decide) rfl rfl w421 (Or.inl rfl) dX5_sendTo_58 (fun H locs hw => ?_)
            refine lv_aload_n hx hb dX5_sendTo_61 rfl (lv_at hl 3 rfl) ?_
            obtain ⟨z48, e48, hf⟩ := ob hf
            refine r_gR C hw e48 ck5 rfl (by decide) w202 dX5_sendTo_62 ?_
            cases z48 with
            | none =>
              have hf := on_n hf
              cases hf
            | some a49 =>
              have hf := on_s hf
              refine W.eq (g2 := F0 m 65 ls [.ref a49]) rfl ?_
              refine lv_aload hx hb dX5_sendTo_65 (lv_at hl 0 rfl) ?_
              obtain ⟨kb50, hf⟩ := ig hf
              obtain ⟨z50, h50, e50, hf⟩ := ob2 hf
              refine r_callV C hw (mX3_send e50) kXX3_send ck3 rfl kb50 w441 w442 w443 ⟨Nat.le_of_ble_eq_true rfl, Nat.le_of_ble_eq_true rfl⟩ rfl hl.1 (rest := []) rfl (Nat.le_of_ble_eq_true rfl) dX5_sendTo_67 (mc := 0) (ms := 0) rfl rfl ⟨by show _ + 0 ≤ 2; omega, by show _ + 0 ≤ 13; omega⟩ (fun H locs hw => ?_)
              refine W.eq (g2 := F0 m 70 ls []) rfl ?_
              obtain ⟨rfl, rfl⟩ := sp hf
              exact r_vret C hw rfl (by omega) (by omega) dX5_sendTo_70
theorem kXX5_sendTo : MK yX5_sendTo cX5_sendTo 5 none 1 := ⟨w560, w6, by decide +kernel⟩
theorem mX5_sendTo {D : va_G} {cy : Nat → ClassId} {s0 : Nat} {l : Launch} {x0 : Nat} {x1 : Int32} {h : Hp} {v : Unit} {h1 : Hp} (hf : fX5_sendTo x0 x1 h = some (v, h1)) : MT D cy s0 l yX5_sendTo cX5_sendTo 5 none rX5_sendTo [.ref x0, .int x1] h none h1 := by
  refine MT.of (by decide +kernel) (Nat.le_of_ble_eq_true rfl) ?_
  intro p e s m below meth c H locs ls C hn hw hl
  exact bX5_sendTo C hn _ _ _ _ hf _ _ _ _ _ (Nat.le_of_ble_eq_true rfl) (Nat.le_of_ble_eq_true rfl) hw hl
abbrev rX5_handleAccept : Room := { frames := 3, cells := 2, slots := 13, locals := 80 }
abbrev pX5_handleAccept_38 (D : va_G) (cy : Nat → ClassId) (s0 : Nat) (p : Program) (l : Launch) (e : Env) (s : State) (m : MethodId) (args : Array Value) (below : List Frame) (meth : Method) (c : Code) (r : Unit × Hp) (x0 : Nat) (x1 : Nat) (h : Hp) : Prop := ∀ (H : Heap) (locs : List Loc) (ls : Array Slot) (cells slots : Nat), cells + (2) ≤ 2 → slots + (13) ≤ 13 → WS D cy s0 s h H locs → lv_has ls 2 [(0, .ref x0), (1, .ref x1)] → W p l e rX5_handleAccept s m args below meth c H locs cells slots (MQ below (QQ D cy s0 none r.2) args s 2 13 (fun q => s0 ≤ q)) (F0 m 38 ls [])
abbrev pX5_handleAccept (D : va_G) (cy : Nat → ClassId) (s0 : Nat) (p : Program) (l : Launch) (e : Env) (s : State) (m : MethodId) (args : Array Value) (below : List Frame) (meth : Method) (c : Code) (r : Unit × Hp) (x0 : Nat) (x1 : Nat) (h : Hp) : Prop := ∀ (H : Heap) (locs : List Loc) (ls : Array Slot) (cells slots : Nat), cells + (2) ≤ 2 → slots + (13) ≤ 13 → WS D cy s0 s h H locs → lv_has ls 2 [(0, .ref x0), (1, .ref x1)] → W p l e rX5_handleAccept s m args below meth c H locs cells slots (MQ below (QQ D cy s0 none r.2) args s 2 13 (fun q => s0 ≤ q)) (F0 m 0 ls [])
set_option maxRecDepth 100000 in
set_option maxHeartbeats 4000000 in
theorem bX5_handleAccept_38 {D : va_G} {cy : Nat → ClassId} {s0 : Nat} {p : Program} {l : Launch} {e : Env} {s : State} {m : MethodId} {args : Array Value} {below : List Frame} {meth : Method} {c : Code} (C : CX D cy s0 p s m args meth c cX5_handleAccept 2 RX5 none) (hn : meth.name = "handleAccept") : ∀ (x0 : Nat) (x1 : Nat) (h : Hp) (r : Unit × Hp), fX5_handleAccept_38 x0 x1 h = some r → pX5_handleAccept_38 D cy s0 p l e s m args below meth c r x0 x1 h := by
  intro x0 x1 h ⟨rv, rh⟩ hf H locs ls cells slots hc hs hw hl
  unfold fX5_handleAccept_38 at hf
  have hx := C.1
  have hb := C.2.1
  refine lv_aload_n hx hb dX5_handleAccept_38 rfl (lv_at hl 0 rfl) ?_
  obtain ⟨z1, e1, hf⟩ := ob hf
  refine r_gR C hw e1 ck5 rfl (by decide) w207 dX5_handleAccept_39 ?_
  cases z1 with
  | none =>
    have hf := on_n hf
    cases hf
  | some a2 =>
    have hf := on_s hf
    refine W.eq (g2 := F0 m 42 ls [.ref a2]) rfl ?_
    refine lv_aload_n hx hb dX5_handleAccept_42 rfl (lv_at hl 1 rfl) ?_
    obtain ⟨z3, e3, hf⟩ := ob hf
    refine r_gI C hw e3 ck4 rfl (by decide) w408 dX5_handleAccept_43 ?_
    refine lv_aload_n hx hb dX5_handleAccept_46 rfl (lv_at hl 0 rfl) ?_
    obtain ⟨z4, e4, hf⟩ := ob hf
    refine r_gR C hw e4 ck5 rfl (by decide) w208 dX5_handleAccept_47 ?_
    cases z4 with
    | none =>
      have hf := on_n hf
      cases hf
    | some a5 =>
      have hf := on_s hf
      refine W.eq (g2 := F0 m 50 ls [.ref a5, .int z3, .ref a2]) rfl ?_
      refine lv_aload_n hx hb dX5_handleAccept_50 rfl (lv_at hl 1 rfl) ?_
      obtain ⟨z6, e6, hf⟩ := ob hf
      refine r_gI C hw e6 ck4 rfl (by decide) w408 dX5_handleAccept_51 ?_
      obtain ⟨z7, e7, hf⟩ := ob hf
      refine r_iald C hw e7 dX5_handleAccept_54 ?_
      refine lv_iconst (v := (1 : Int32)) hx hb dX5_handleAccept_55 (by decide) ?_
      refine lv_iadd hx hb dX5_handleAccept_56 ?_
      obtain ⟨h8, e8, hf⟩ := ob hf
      refine r_iast C hw e8 dX5_handleAccept_57 (fun H locs hw => ?_)
      refine lv_aload_n hx hb dX5_handleAccept_58 rfl (lv_at hl 0 rfl) ?_
      obtain ⟨kb9, hf⟩ := ig hf
      obtain ⟨z9, h9, e9, hf⟩ := ob2 hf
      refine r_callV C hw (mX5_commitWhatMatches e9) kXX5_commitWhatMatches ck5 rfl kb9 w589 w591 v14 ⟨Nat.le_of_ble_eq_true rfl, Nat.le_of_ble_eq_true rfl⟩ rfl hl.1 (rest := []) rfl (Nat.le_of_ble_eq_true rfl) dX5_handleAccept_59 (mc := 0) (ms := 0) rfl rfl ⟨by show _ + 0 ≤ 2; omega, by show _ + 0 ≤ 13; omega⟩ (fun H locs hw => ?_)
      refine W.eq (g2 := F0 m 62 ls []) rfl ?_
      refine lv_aload_n hx hb dX5_handleAccept_62 rfl (lv_at hl 0 rfl) ?_
      obtain ⟨z10, e10, hf⟩ := ob hf
      refine r_gR C hw e10 ck5 rfl (by decide) w207 dX5_handleAccept_63 ?_
      cases z10 with
      | none =>
        have hf := on_n hf
        cases hf
      | some a11 =>
        have hf := on_s hf
        refine W.eq (g2 := F0 m 66 ls [.ref a11]) rfl ?_
        refine lv_aload_n hx hb dX5_handleAccept_66 rfl (lv_at hl 1 rfl) ?_
        obtain ⟨z12, e12, hf⟩ := ob hf
        refine r_gI C hw e12 ck4 rfl (by decide) w408 dX5_handleAccept_67 ?_
        obtain ⟨z13, e13, hf⟩ := ob hf
        refine r_iald C hw e13 dX5_handleAccept_70 ?_
        refine lv_aload_n hx hb dX5_handleAccept_71 rfl (lv_at hl 0 rfl) ?_
        obtain ⟨z14, e14, hf⟩ := ob hf
        refine r_gR C hw e14 ck5 rfl (by decide) w189 dX5_handleAccept_72 ?_
        cases z14 with
        | none =>
          have hf := on_n hf
          cases hf
        | some a15 =>
          have hf := on_s hf
          refine W.eq (g2 := F0 m 75 ls [.ref a15, .int z13]) rfl ?_
          obtain ⟨z16, e16, hf⟩ := ob hf
          refine r_gI C hw e16 ck1 rfl (by decide) w166 dX5_handleAccept_75 ?_
          refine lv_icmp_gt (tgt := 89) hx hb dX5_handleAccept_78 (by decide) (fun c17 => ?_) (fun c17 => ?_)
          · have hf := ip hf c17
            obtain ⟨rfl, rfl⟩ := sp hf
            exact r_vret C hw rfl (by omega) (by omega) dX5_handleAccept_89
          · have hf := ie hf c17
            refine lv_aload_n hx hb dX5_handleAccept_81 rfl (lv_at hl 0 rfl) ?_
            refine lv_aload_n hx hb dX5_handleAccept_82 rfl (lv_at hl 1 rfl) ?_
            obtain ⟨z18, e18, hf⟩ := ob hf
            refine r_gI C hw e18 ck4 rfl (by decide) w408 dX5_handleAccept_83 ?_
            obtain ⟨kb19, hf⟩ := ig hf
            obtain ⟨z19, h19, e19, hf⟩ := ob2 hf
            refine r_callV C hw (mX5_sendTo e19) kXX5_sendTo ck5 rfl kb19 w557 w559 v10 ⟨Nat.le_of_ble_eq_true rfl, Nat.le_of_ble_eq_true rfl⟩ rfl hl.1 (rest := []) rfl (Nat.le_of_ble_eq_true rfl) dX5_handleAccept_86 (mc := 2) (ms := 13) rfl rfl ⟨by show _ + 2 ≤ 2; omega, by show _ + 13 ≤ 13; omega⟩ (fun H locs hw => ?_)
            refine W.eq (g2 := F0 m 89 ls []) rfl ?_
            obtain ⟨rfl, rfl⟩ := sp hf
            exact r_vret C hw rfl (by omega) (by omega) dX5_handleAccept_89
set_option maxRecDepth 100000 in
set_option maxHeartbeats 4000000 in
theorem bX5_handleAccept {D : va_G} {cy : Nat → ClassId} {s0 : Nat} {p : Program} {l : Launch} {e : Env} {s : State} {m : MethodId} {args : Array Value} {below : List Frame} {meth : Method} {c : Code} (C : CX D cy s0 p s m args meth c cX5_handleAccept 2 RX5 none) (hn : meth.name = "handleAccept") : ∀ (x0 : Nat) (x1 : Nat) (h : Hp) (r : Unit × Hp), fX5_handleAccept x0 x1 h = some r → pX5_handleAccept D cy s0 p l e s m args below meth c r x0 x1 h := by
  intro x0 x1 h ⟨rv, rh⟩ hf H locs ls cells slots hc hs hw hl
  unfold fX5_handleAccept at hf
  have hx := C.1
  have hb := C.2.1
  refine lv_aload_n hx hb dX5_handleAccept_0 rfl (lv_at hl 0 rfl) ?_
  obtain ⟨z1, e1, hf⟩ := ob hf
  refine r_gI C hw e1 ck5 rfl (by decide) w197 dX5_handleAccept_1 ?_
  refine lv_iconst (v := (2 : Int32)) hx hb dX5_handleAccept_4 (by decide) ?_
  refine lv_icmp_eq (tgt := 9) hx hb dX5_handleAccept_5 (by decide) (fun c2 => ?_) (fun c2 => ?_)
  · have hf := ip hf c2
    refine lv_aload_n hx hb dX5_handleAccept_9 rfl (lv_at hl 0 rfl) ?_
    obtain ⟨z3, e3, hf⟩ := ob hf
    refine r_gR C hw e3 ck5 rfl (by decide) w208 dX5_handleAccept_10 ?_
    cases z3 with
    | none =>
      have hf := on_n hf
      cases hf
    | some a4 =>
      have hf := on_s hf
      refine W.eq (g2 := F0 m 13 ls [.ref a4]) rfl ?_
      refine lv_aload_n hx hb dX5_handleAccept_13 rfl (lv_at hl 1 rfl) ?_
      obtain ⟨z5, e5, hf⟩ := ob hf
      refine r_gI C hw e5 ck4 rfl (by decide) w408 dX5_handleAccept_14 ?_
      obtain ⟨z6, e6, hf⟩ := ob hf
      refine r_iald C hw e6 dX5_handleAccept_17 ?_
      refine lv_aload_n hx hb dX5_handleAccept_18 rfl (lv_at hl 1 rfl) ?_
      obtain ⟨z7, e7, hf⟩ := ob hf
      refine r_gI C hw e7 ck4 rfl (by decide) w414 dX5_handleAccept_19 ?_
      refine lv_icmp_ge (tgt := 38) hx hb dX5_handleAccept_22 (by decide) (fun c8 => ?_) (fun c8 => ?_)
      · have hf := ip hf c8
        exact bX5_handleAccept_38 C hn _ _ _ _ hf _ _ _ _ _ (by omega) (by omega) hw (lv_sub hl [0, 1] rfl)
      · have hf := ie hf c8
        refine lv_aload_n hx hb dX5_handleAccept_25 rfl (lv_at hl 0 rfl) ?_
        obtain ⟨z9, e9, hf⟩ := ob hf
        refine r_gR C hw e9 ck5 rfl (by decide) w208 dX5_handleAccept_26 ?_
        cases z9 with
        | none =>
          have hf := on_n hf
          cases hf
        | some a10 =>
          have hf := on_s hf
          refine W.eq (g2 := F0 m 29 ls [.ref a10]) rfl ?_
          refine lv_aload_n hx hb dX5_handleAccept_29 rfl (lv_at hl 1 rfl) ?_
          obtain ⟨z11, e11, hf⟩ := ob hf
          refine r_gI C hw e11 ck4 rfl (by decide) w408 dX5_handleAccept_30 ?_
          refine lv_aload_n hx hb dX5_handleAccept_33 rfl (lv_at hl 1 rfl) ?_
          obtain ⟨z12, e12, hf⟩ := ob hf
          refine r_gI C hw e12 ck4 rfl (by decide) w414 dX5_handleAccept_34 ?_
          obtain ⟨h13, e13, hf⟩ := ob hf
          refine r_iast C hw e13 dX5_handleAccept_37 (fun H locs hw => ?_)
          exact bX5_handleAccept_38 C hn _ _ _ _ hf _ _ _ _ _ (by omega) (by omega) hw (lv_sub hl [0, 1] rfl)
  · have hf := ie hf c2
    obtain ⟨rfl, rfl⟩ := sp hf
    exact r_vret C hw rfl (by omega) (by omega) dX5_handleAccept_8
theorem kXX5_handleAccept : MK yX5_handleAccept cX5_handleAccept 2 none 1 := ⟨w588, w6, by decide +kernel⟩
theorem mX5_handleAccept {D : va_G} {cy : Nat → ClassId} {s0 : Nat} {l : Launch} {x0 : Nat} {x1 : Nat} {h : Hp} {v : Unit} {h1 : Hp} (hf : fX5_handleAccept x0 x1 h = some (v, h1)) : MT D cy s0 l yX5_handleAccept cX5_handleAccept 2 none rX5_handleAccept [.ref x0, .ref x1] h none h1 := by
  refine MT.of (by decide +kernel) (Nat.le_of_ble_eq_true rfl) ?_
  intro p e s m below meth c H locs ls C hn hw hl
  exact bX5_handleAccept C hn _ _ _ _ hf _ _ _ _ _ (Nat.le_of_ble_eq_true rfl) (Nat.le_of_ble_eq_true rfl) hw hl
abbrev rX5_survives : Room := { frames := 1, cells := 0, slots := 0, locals := 20 }
abbrev pX5_survives (D : va_G) (cy : Nat → ClassId) (s0 : Nat) (p : Program) (l : Launch) (e : Env) (s : State) (m : MethodId) (args : Array Value) (below : List Frame) (meth : Method) (c : Code) (r : Int32 × Hp) (x0 : Nat) (x1 : Int32) (h : Hp) : Prop := ∀ (H : Heap) (locs : List Loc) (ls : Array Slot) (cells slots : Nat), cells + (0) ≤ 0 → slots + (0) ≤ 0 → WS D cy s0 s h H locs → lv_has ls 2 [(0, .ref x0), (1, .int x1)] → W p l e rX5_survives s m args below meth c H locs cells slots (MQ below (QQ D cy s0 (some (.int r.1)) r.2) args s 0 0 (fun q => s0 ≤ q)) (F0 m 0 ls [])
set_option maxRecDepth 100000 in
set_option maxHeartbeats 4000000 in
theorem bX5_survives {D : va_G} {cy : Nat → ClassId} {s0 : Nat} {p : Program} {l : Launch} {e : Env} {s : State} {m : MethodId} {args : Array Value} {below : List Frame} {meth : Method} {c : Code} (C : CX D cy s0 p s m args meth c cX5_survives 2 RX5 (some .boolean)) (hn : meth.name = "survives") : ∀ (x0 : Nat) (x1 : Int32) (h : Hp) (r : Int32 × Hp), fX5_survives x0 x1 h = some r → pX5_survives D cy s0 p l e s m args below meth c r x0 x1 h := by
  intro x0 x1 h ⟨rv, rh⟩ hf H locs ls cells slots hc hs hw hl
  unfold fX5_survives at hf
  have hx := C.1
  have hb := C.2.1
  refine lv_iload_n hx hb dX5_survives_0 rfl (lv_at hl 1 rfl) ?_
  refine lv_if_ne (tgt := 8) hx hb dX5_survives_1 (by decide) (fun c1 => ?_) (fun c1 => ?_)
  · have hf := ie hf c1
    refine lv_iload_n hx hb dX5_survives_8 rfl (lv_at hl 1 rfl) ?_
    obtain ⟨gz, hf⟩ := ig hf
    obtain ⟨rfl, rfl⟩ := sp hf
    exact r_iret C hw rfl (nz gz) (by omega) (by omega) dX5_survives_9
  · have hf := ip hf c1
    refine lv_aload_n hx hb dX5_survives_4 rfl (lv_at hl 0 rfl) ?_
    obtain ⟨kb2, hf⟩ := ig hf
    obtain ⟨z2, h2, e2, hf⟩ := ob2 hf
    refine r_callV C hw (mX5_goDown e2) kXX5_goDown ck5 rfl kb2 w386 w387 w388 ⟨Nat.le_of_ble_eq_true rfl, Nat.le_of_ble_eq_true rfl⟩ rfl hl.1 (rest := []) rfl (Nat.le_of_ble_eq_true rfl) dX5_survives_5 (mc := 0) (ms := 0) rfl rfl ⟨by show _ + 0 ≤ 0; omega, by show _ + 0 ≤ 0; omega⟩ (fun H locs hw => ?_)
    refine W.eq (g2 := F0 m 8 ls []) rfl ?_
    refine lv_iload_n hx hb dX5_survives_8 rfl (lv_at hl 1 rfl) ?_
    obtain ⟨gz, hf⟩ := ig hf
    obtain ⟨rfl, rfl⟩ := sp hf
    exact r_iret C hw rfl (nz gz) (by omega) (by omega) dX5_survives_9
theorem kXX5_survives : MK yX5_survives cX5_survives 2 (some .boolean) 1 := ⟨w385, w6, by decide +kernel⟩
theorem mX5_survives {D : va_G} {cy : Nat → ClassId} {s0 : Nat} {l : Launch} {x0 : Nat} {x1 : Int32} {h : Hp} {v : Int32} {h1 : Hp} (hf : fX5_survives x0 x1 h = some (v, h1)) : MT D cy s0 l yX5_survives cX5_survives 2 (some .boolean) rX5_survives [.ref x0, .int x1] h (some (.int v)) h1 := by
  refine MT.of (by decide +kernel) (Nat.le_of_ble_eq_true rfl) ?_
  intro p e s m below meth c H locs ls C hn hw hl
  exact bX5_survives C hn _ _ _ _ hf _ _ _ _ _ (Nat.le_of_ble_eq_true rfl) (Nat.le_of_ble_eq_true rfl) hw hl
abbrev rX5_keepEntries : Room := { frames := 2, cells := 0, slots := 0, locals := 43 }
abbrev pX5_keepEntries_79 (D : va_G) (cy : Nat → ClassId) (s0 : Nat) (p : Program) (l : Launch) (e : Env) (s : State) (m : MethodId) (args : Array Value) (below : List Frame) (meth : Method) (c : Code) (r : Int32 × Hp) (x0 : Nat) (x1 : Nat) (x2 : Int32) (x3 : Int32) (h : Hp) : Prop := ∀ (H : Heap) (locs : List Loc) (ls : Array Slot) (cells slots : Nat), cells + (0) ≤ 0 → slots + (0) ≤ 0 → WS D cy s0 s h H locs → lv_has ls 6 [(0, .ref x0), (1, .ref x1), (2, .int x2), (3, .int x3)] → W p l e rX5_keepEntries s m args below meth c H locs cells slots (MQ below (QQ D cy s0 (some (.int r.1)) r.2) args s 0 0 (fun q => s0 ≤ q)) (F0 m 79 ls [])
abbrev pX5_keepEntries_2 (D : va_G) (cy : Nat → ClassId) (s0 : Nat) (p : Program) (l : Launch) (e : Env) (s : State) (m : MethodId) (args : Array Value) (below : List Frame) (meth : Method) (c : Code) (r : Int32 × Hp) (x0 : Nat) (x1 : Nat) (x2 : Int32) (x3 : Int32) (h : Hp) : Prop := ∀ (H : Heap) (locs : List Loc) (ls : Array Slot) (cells slots : Nat), cells + (0) ≤ 0 → slots + (0) ≤ 0 → WS D cy s0 s h H locs → lv_has ls 6 [(0, .ref x0), (1, .ref x1), (2, .int x2), (3, .int x3)] → W p l e rX5_keepEntries s m args below meth c H locs cells slots (MQ below (QQ D cy s0 (some (.int r.1)) r.2) args s 0 0 (fun q => s0 ≤ q)) (F0 m 2 ls [])
abbrev pX5_keepEntries (D : va_G) (cy : Nat → ClassId) (s0 : Nat) (p : Program) (l : Launch) (e : Env) (s : State) (m : MethodId) (args : Array Value) (below : List Frame) (meth : Method) (c : Code) (r : Int32 × Hp) (x0 : Nat) (x1 : Nat) (x2 : Int32) (h : Hp) : Prop := ∀ (H : Heap) (locs : List Loc) (ls : Array Slot) (cells slots : Nat), cells + (0) ≤ 0 → slots + (0) ≤ 0 → WS D cy s0 s h H locs → lv_has ls 6 [(0, .ref x0), (1, .ref x1), (2, .int x2)] → W p l e rX5_keepEntries s m args below meth c H locs cells slots (MQ below (QQ D cy s0 (some (.int r.1)) r.2) args s 0 0 (fun q => s0 ≤ q)) (F0 m 0 ls [])
set_option maxRecDepth 100000 in
set_option maxHeartbeats 4000000 in
theorem bX5_keepEntries_79 {D : va_G} {cy : Nat → ClassId} {s0 : Nat} {p : Program} {l : Launch} {e : Env} {s : State} {m : MethodId} {args : Array Value} {below : List Frame} {meth : Method} {c : Code} (C : CX D cy s0 p s m args meth c cX5_keepEntries 6 RX5 (some .boolean)) (hn : meth.name = "keepEntries") {k2 : Nat → Nat → Int32 → Int32 → Hp → Option (Int32 × Hp)} (hk2 : ∀ (x0 : Nat) (x1 : Nat) (x2 : Int32) (x3 : Int32) (h : Hp) (r : Int32 × Hp), k2 x0 x1 x2 x3 h = some r → pX5_keepEntries_2 D cy s0 p l e s m args below meth c r x0 x1 x2 x3 h) : ∀ (x0 : Nat) (x1 : Nat) (x2 : Int32) (x3 : Int32) (h : Hp) (r : Int32 × Hp), fX5_keepEntries_79 k2 x0 x1 x2 x3 h = some r → pX5_keepEntries_79 D cy s0 p l e s m args below meth c r x0 x1 x2 x3 h := by
  intro x0 x1 x2 x3 h ⟨rv, rh⟩ hf H locs ls cells slots hc hs hw hl
  unfold fX5_keepEntries_79 at hf
  have hx := C.1
  have hb := C.2.1
  refine lv_iinc (v := (x3 + (1 : Int32))) (lv' := [(3, .int (x3 + (1 : Int32))), (0, .ref x0), (1, .ref x1), (2, .int x2)]) hx hb dX5_keepEntries_79 hl (k := 3) rfl rfl (by decide) rfl (fun ls hl => ?_)
  refine lv_goto (tgt := 2) hx hb dX5_keepEntries_82 (by decide) ?_
  exact hk2 _ _ _ _ _ _ hf _ _ _ _ _ (by omega) (by omega) hw (lv_sub hl [1, 2, 3, 0] rfl)
set_option maxRecDepth 100000 in
set_option maxHeartbeats 4000000 in
theorem bX5_keepEntries_2_body {D : va_G} {cy : Nat → ClassId} {s0 : Nat} {p : Program} {l : Launch} {e : Env} {s : State} {m : MethodId} {args : Array Value} {below : List Frame} {meth : Method} {c : Code} (C : CX D cy s0 p s m args meth c cX5_keepEntries 6 RX5 (some .boolean)) (hn : meth.name = "keepEntries") {k2 : Nat → Nat → Int32 → Int32 → Hp → Option (Int32 × Hp)} (hk2 : ∀ (x0 : Nat) (x1 : Nat) (x2 : Int32) (x3 : Int32) (h : Hp) (r : Int32 × Hp), k2 x0 x1 x2 x3 h = some r → pX5_keepEntries_2 D cy s0 p l e s m args below meth c r x0 x1 x2 x3 h) : ∀ (x0 : Nat) (x1 : Nat) (x2 : Int32) (x3 : Int32) (h : Hp) (r : Int32 × Hp), fX5_keepEntries_2_body k2 x0 x1 x2 x3 h = some r → pX5_keepEntries_2 D cy s0 p l e s m args below meth c r x0 x1 x2 x3 h := by
  intro x0 x1 x2 x3 h ⟨rv, rh⟩ hf H locs ls cells slots hc hs hw hl
  unfold fX5_keepEntries_2_body at hf
  have hx := C.1
  have hb := C.2.1
  refine lv_iload_n hx hb dX5_keepEntries_2 rfl (lv_at hl 3 rfl) ?_
  refine lv_aload_n hx hb dX5_keepEntries_3 rfl (lv_at hl 1 rfl) ?_
  obtain ⟨kb1, hf⟩ := ig hf
  obtain ⟨z1, h1, e1, hf⟩ := ob2 hf
  refine r_callV C hw (mX4_entryCount e1) kXX4_entryCount ck4 rfl kb1 w579 w580 w581 ⟨Nat.le_of_ble_eq_true rfl, Nat.le_of_ble_eq_true rfl⟩ rfl hl.1 (rest := [.int x3]) rfl (Nat.le_of_ble_eq_true rfl) dX5_keepEntries_4 (mc := 0) (ms := 0) rfl rfl ⟨by show _ + 0 ≤ 0; omega, by show _ + 0 ≤ 0; omega⟩ (fun H locs hw => ?_)
  refine W.eq (g2 := F0 m 7 ls [.int z1, .int x3]) rfl ?_
  refine lv_icmp_ge (tgt := 85) hx hb dX5_keepEntries_7 (by decide) (fun c2 => ?_) (fun c2 => ?_)
  · have hf := ip hf c2
    refine lv_iconst (v := (1 : Int32)) hx hb dX5_keepEntries_85 (by decide) ?_
    obtain ⟨rfl, rfl⟩ := sp hf
    exact r_iret C hw rfl (nz (Or.inr rfl)) (by omega) (by omega) dX5_keepEntries_86
  · have hf := ie hf c2
    refine lv_aload_n hx hb dX5_keepEntries_10 rfl (lv_at hl 1 rfl) ?_
    obtain ⟨z3, e3, hf⟩ := ob hf
    refine r_gI C hw e3 ck4 rfl (by decide) w414 dX5_keepEntries_11 ?_
    refine lv_iconst (v := (1 : Int32)) hx hb dX5_keepEntries_14 (by decide) ?_
    refine lv_iadd hx hb dX5_keepEntries_15 ?_
    refine lv_iload_n hx hb dX5_keepEntries_16 rfl (lv_at hl 3 rfl) ?_
    refine lv_iadd hx hb dX5_keepEntries_17 ?_
    refine lv_istore (lv' := [(4, .int ((z3 + (1 : Int32)) + x3)), (0, .ref x0), (1, .ref x1), (2, .int x2), (3, .int x3)]) hx hb dX5_keepEntries_18 hl (by decide) rfl (fun ls hl => ?_)
    refine lv_aload_n hx hb dX5_keepEntries_20 rfl (lv_at hl 2 rfl) ?_
    obtain ⟨z4, e4, hf⟩ := ob hf
    refine r_gR C hw e4 ck4 rfl (by decide) w418 dX5_keepEntries_21 ?_
    cases z4 with
    | none =>
      have hf := on_n hf
      cases hf
    | some a5 =>
      have hf := on_s hf
      refine W.eq (g2 := F0 m 24 ls [.ref a5]) rfl ?_
      refine lv_iload_n hx hb dX5_keepEntries_24 rfl (lv_at hl 4 rfl) ?_
      obtain ⟨z6, e6, hf⟩ := ob hf
      refine r_aald C hw e6 (by decide) rfl dX5_keepEntries_25 ?_
      cases z6 with
      | none =>
        have hf := on_n hf
        refine W.eq (g2 := F0 m 26 ls [.null]) rfl ?_
        refine lv_astoreN (lv' := [(5, .null), (4, .int ((z3 + (1 : Int32)) + x3)), (0, .ref x0), (1, .ref x1), (2, .int x2), (3, .int x3)]) hx hb dX5_keepEntries_26 hl (by decide) rfl (fun ls hl => ?_)
        refine lv_iload hx hb dX5_keepEntries_28 (lv_at hl 1 rfl) ?_
        refine lv_iload_n hx hb dX5_keepEntries_30 rfl (lv_at hl 4 rfl) ?_
        refine lv_icmp_le (tgt := 79) hx hb dX5_keepEntries_31 (by decide) (fun c21 => ?_) (fun c21 => ?_)
        · have hf := ip hf c21
          exact bX5_keepEntries_79 C hn hk2 _ _ _ _ _ _ hf _ _ _ _ _ (by omega) (by omega) hw (lv_sub hl [2, 3, 4, 5] rfl)
        · have hf := ie hf c21
          refine lv_aloadN hx hb dX5_keepEntries_34 (lv_at hl 0 rfl) ?_
          refine lv_ifnullN (tgt := 79) hx hb dX5_keepEntries_36 (by decide) ?_
          exact bX5_keepEntries_79 C hn hk2 _ _ _ _ _ _ hf _ _ _ _ _ (by omega) (by omega) hw (lv_sub hl [2, 3, 4, 5] rfl)
      | some a7 =>
        have hf := on_s hf
        refine W.eq (g2 := F0 m 26 ls [.ref a7]) rfl ?_
        refine lv_astore (lv' := [(5, .ref a7), (4, .int ((z3 + (1 : Int32)) + x3)), (0, .ref x0), (1, .ref x1), (2, .int x2), (3, .int x3)]) hx hb dX5_keepEntries_26 hl (by decide) rfl (fun ls hl => ?_)
        refine lv_iload hx hb dX5_keepEntries_28 (lv_at hl 1 rfl) ?_
        refine lv_iload_n hx hb dX5_keepEntries_30 rfl (lv_at hl 4 rfl) ?_
        refine lv_icmp_le (tgt := 79) hx hb dX5_keepEntries_31 (by decide) (fun c8 => ?_) (fun c8 => ?_)
        · have hf := ip hf c8
          exact bX5_keepEntries_79 C hn hk2 _ _ _ _ _ _ hf _ _ _ _ _ (by omega) (by omega) hw (lv_sub hl [2, 3, 4, 5] rfl)
        · have hf := ie hf c8
          refine lv_aload hx hb dX5_keepEntries_34 (lv_at hl 0 rfl) ?_
          refine lv_ifnull hx hb dX5_keepEntries_36 ?_
          refine lv_aload_n hx hb dX5_keepEntries_39 rfl (lv_at hl 2 rfl) ?_
          obtain ⟨z9, e9, hf⟩ := ob hf
          refine r_gR C hw e9 ck5 rfl (by decide) w189 dX5_keepEntries_40 ?_
          cases z9 with
          | none =>
            have hf := on_n hf
            cases hf
          | some a10 =>
            have hf := on_s hf
            refine W.eq (g2 := F0 m 43 ls [.ref a10]) rfl ?_
            refine lv_iload hx hb dX5_keepEntries_43 (lv_at hl 1 rfl) ?_
            obtain ⟨kb11, hf⟩ := ig hf
            obtain ⟨z11, h11, e11, hf⟩ := ob2 hf
            refine r_callV C hw (mX1_termAt e11) kXX1_termAt ck1 rfl kb11 w390 w391 w392 ⟨Nat.le_of_ble_eq_true rfl, Nat.le_of_ble_eq_true rfl⟩ rfl hl.1 (rest := []) rfl (Nat.le_of_ble_eq_true rfl) dX5_keepEntries_45 (mc := 0) (ms := 0) rfl rfl ⟨by show _ + 0 ≤ 0; omega, by show _ + 0 ≤ 0; omega⟩ (fun H locs hw => ?_)
            refine W.eq (g2 := F0 m 48 ls [.int z11]) rfl ?_
            refine lv_aload hx hb dX5_keepEntries_48 (lv_at hl 0 rfl) ?_
            obtain ⟨z12, e12, hf⟩ := ob hf
            refine r_gI C hw e12 ck2 rfl (by decide) w541 dX5_keepEntries_50 ?_
            refine lv_icmp_ne (tgt := 59) hx hb dX5_keepEntries_53 (by decide) (fun c13 => ?_) (fun c13 => ?_)
            · have hf := ie hf c13
              refine lv_aload_n hx hb dX5_keepEntries_59 rfl (lv_at hl 2 rfl) ?_
              refine lv_aload_n hx hb dX5_keepEntries_60 rfl (lv_at hl 2 rfl) ?_
              obtain ⟨z14, e14, hf⟩ := ob hf
              refine r_gR C hw e14 ck5 rfl (by decide) w189 dX5_keepEntries_61 ?_
              cases z14 with
              | none =>
                have hf := on_n hf
                cases hf
              | some a15 =>
                have hf := on_s hf
                refine W.eq (g2 := F0 m 64 ls [.ref a15, .ref x0]) rfl ?_
                refine lv_iload hx hb dX5_keepEntries_64 (lv_at hl 1 rfl) ?_
                refine lv_aload hx hb dX5_keepEntries_66 (lv_at hl 0 rfl) ?_
                obtain ⟨kb16, hf⟩ := ig hf
                obtain ⟨z16, h16, e16, hf⟩ := ob2 hf
                refine r_callV C hw (mX1_recordEntry e16) kXX1_recordEntry ck1 rfl kb16 w549 w550 w551 ⟨Nat.le_of_ble_eq_true rfl, Nat.le_of_ble_eq_true rfl⟩ rfl hl.1 (rest := [.ref x0]) rfl (Nat.le_of_ble_eq_true rfl) dX5_keepEntries_68 (mc := 0) (ms := 0) rfl rfl ⟨by show _ + 0 ≤ 0; omega, by show _ + 0 ≤ 0; omega⟩ (fun H locs hw => ?_)
                refine W.eq (g2 := F0 m 71 ls [.int z16, .ref x0]) rfl ?_
                obtain ⟨kb17, hf⟩ := ig hf
                obtain ⟨z17, h17, e17, hf⟩ := ob2 hf
                refine r_callV C hw (mX5_survives e17) kXX5_survives ck5 rfl kb17 w382 w384 v3 ⟨Nat.le_of_ble_eq_true rfl, Nat.le_of_ble_eq_true rfl⟩ rfl hl.1 (rest := []) rfl (Nat.le_of_ble_eq_true rfl) dX5_keepEntries_71 (mc := 0) (ms := 0) rfl rfl ⟨by show _ + 0 ≤ 0; omega, by show _ + 0 ≤ 0; omega⟩ (fun H locs hw => ?_)
                refine W.eq (g2 := F0 m 74 ls [.int z17]) rfl ?_
                refine lv_if_ne (tgt := 79) hx hb dX5_keepEntries_74 (by decide) (fun c18 => ?_) (fun c18 => ?_)
                · have hf := ie hf c18
                  exact bX5_keepEntries_79 C hn hk2 _ _ _ _ _ _ hf _ _ _ _ _ (by omega) (by omega) hw (lv_sub hl [2, 3, 4, 5] rfl)
                · have hf := ip hf c18
                  refine lv_iconst (v := (0 : Int32)) hx hb dX5_keepEntries_77 (by decide) ?_
                  obtain ⟨rfl, rfl⟩ := sp hf
                  exact r_iret C hw rfl (nz (Or.inl rfl)) (by omega) (by omega) dX5_keepEntries_78
            · have hf := ip hf c13
              refine lv_goto (tgt := 79) hx hb dX5_keepEntries_56 (by decide) ?_
              exact bX5_keepEntries_79 C hn hk2 _ _ _ _ _ _ hf _ _ _ _ _ (by omega) (by omega) hw (lv_sub hl [2, 3, 4, 5] rfl)
set_option maxRecDepth 100000 in
set_option maxHeartbeats 4000000 in
theorem bX5_keepEntries_2 {D : va_G} {cy : Nat → ClassId} {s0 : Nat} {p : Program} {l : Launch} {e : Env} {s : State} {m : MethodId} {args : Array Value} {below : List Frame} {meth : Method} {c : Code} (C : CX D cy s0 p s m args meth c cX5_keepEntries 6 RX5 (some .boolean)) (hn : meth.name = "keepEntries") : ∀ (n : Nat) (x0 : Nat) (x1 : Nat) (x2 : Int32) (x3 : Int32) (h : Hp) (r : Int32 × Hp), fX5_keepEntries_2 n x0 x1 x2 x3 h = some r → pX5_keepEntries_2 D cy s0 p l e s m args below meth c r x0 x1 x2 x3 h := by
  intro n
  induction n with
  | zero => intro x0 x1 x2 x3 h r hf; exact absurd hf (fun q => by cases q)
  | succ n ih => exact bX5_keepEntries_2_body C hn ih
set_option maxRecDepth 100000 in
set_option maxHeartbeats 4000000 in
theorem bX5_keepEntries {D : va_G} {cy : Nat → ClassId} {s0 : Nat} {p : Program} {l : Launch} {e : Env} {s : State} {m : MethodId} {args : Array Value} {below : List Frame} {meth : Method} {c : Code} (C : CX D cy s0 p s m args meth c cX5_keepEntries 6 RX5 (some .boolean)) (hn : meth.name = "keepEntries") : ∀ (x0 : Nat) (x1 : Nat) (x2 : Int32) (h : Hp) (r : Int32 × Hp), fX5_keepEntries x0 x1 x2 h = some r → pX5_keepEntries D cy s0 p l e s m args below meth c r x0 x1 x2 h := by
  intro x0 x1 x2 h ⟨rv, rh⟩ hf H locs ls cells slots hc hs hw hl
  unfold fX5_keepEntries at hf
  have hx := C.1
  have hb := C.2.1
  refine lv_iconst (v := (0 : Int32)) hx hb dX5_keepEntries_0 (by decide) ?_
  refine lv_istore_n (lv' := [(3, .int (0 : Int32)), (0, .ref x0), (1, .ref x1), (2, .int x2)]) hx hb dX5_keepEntries_1 rfl hl (by decide) rfl (fun ls hl => ?_)
  exact bX5_keepEntries_2 C hn LF _ _ _ _ _ _ hf _ _ _ _ _ (by omega) (by omega) hw (lv_sub hl [1, 2, 3, 0] rfl)
theorem kXX5_keepEntries : MK yX5_keepEntries cX5_keepEntries 6 (some .boolean) 2 := ⟨w578, w6, by decide +kernel⟩
theorem mX5_keepEntries {D : va_G} {cy : Nat → ClassId} {s0 : Nat} {l : Launch} {x0 : Nat} {x1 : Nat} {x2 : Int32} {h : Hp} {v : Int32} {h1 : Hp} (hf : fX5_keepEntries x0 x1 x2 h = some (v, h1)) : MT D cy s0 l yX5_keepEntries cX5_keepEntries 6 (some .boolean) rX5_keepEntries [.ref x0, .ref x1, .int x2] h (some (.int v)) h1 := by
  refine MT.of (by decide +kernel) (Nat.le_of_ble_eq_true rfl) ?_
  intro p e s m below meth c H locs ls C hn hw hl
  exact bX5_keepEntries C hn _ _ _ _ _ hf _ _ _ _ _ (Nat.le_of_ble_eq_true rfl) (Nat.le_of_ble_eq_true rfl) hw hl
abbrev rX5_handleAppend : Room := { frames := 3, cells := 1, slots := 9, locals := 73 }
abbrev pX5_handleAppend_83 (D : va_G) (cy : Nat → ClassId) (s0 : Nat) (p : Program) (l : Launch) (e : Env) (s : State) (m : MethodId) (args : Array Value) (below : List Frame) (meth : Method) (c : Code) (r : Unit × Hp) (x0 : Nat) (x1 : Nat) (x2 : Int32) (h : Hp) : Prop := ∀ (H : Heap) (locs : List Loc) (ls : Array Slot) (cells slots : Nat), cells + (1) ≤ 1 → slots + (9) ≤ 9 → WS D cy s0 s h H locs → lv_has ls 4 [(0, .ref x0), (1, .ref x1), (2, .int x2)] → W p l e rX5_handleAppend s m args below meth c H locs cells slots (MQ below (QQ D cy s0 none r.2) args s 1 9 (fun q => s0 ≤ q)) (F0 m 83 ls [])
abbrev pX5_handleAppend (D : va_G) (cy : Nat → ClassId) (s0 : Nat) (p : Program) (l : Launch) (e : Env) (s : State) (m : MethodId) (args : Array Value) (below : List Frame) (meth : Method) (c : Code) (r : Unit × Hp) (x0 : Nat) (x1 : Nat) (h : Hp) : Prop := ∀ (H : Heap) (locs : List Loc) (ls : Array Slot) (cells slots : Nat), cells + (1) ≤ 1 → slots + (9) ≤ 9 → WS D cy s0 s h H locs → lv_has ls 4 [(0, .ref x0), (1, .ref x1)] → W p l e rX5_handleAppend s m args below meth c H locs cells slots (MQ below (QQ D cy s0 none r.2) args s 1 9 (fun q => s0 ≤ q)) (F0 m 0 ls [])
set_option maxRecDepth 100000 in
set_option maxHeartbeats 4000000 in
theorem bX5_handleAppend_83 {D : va_G} {cy : Nat → ClassId} {s0 : Nat} {p : Program} {l : Launch} {e : Env} {s : State} {m : MethodId} {args : Array Value} {below : List Frame} {meth : Method} {c : Code} (C : CX D cy s0 p s m args meth c cX5_handleAppend 4 RX5 none) (hn : meth.name = "handleAppend") : ∀ (x0 : Nat) (x1 : Nat) (x2 : Int32) (h : Hp) (r : Unit × Hp), fX5_handleAppend_83 x0 x1 x2 h = some r → pX5_handleAppend_83 D cy s0 p l e s m args below meth c r x0 x1 x2 h := by
  intro x0 x1 x2 h ⟨rv, rh⟩ hf H locs ls cells slots hc hs hw hl
  unfold fX5_handleAppend_83 at hf
  have hx := C.1
  have hb := C.2.1
  refine lv_aload_n hx hb dX5_handleAppend_83 rfl (lv_at hl 0 rfl) ?_
  refine lv_aload_n hx hb dX5_handleAppend_84 rfl (lv_at hl 1 rfl) ?_
  refine lv_iload_n hx hb dX5_handleAppend_85 rfl (lv_at hl 2 rfl) ?_
  obtain ⟨kb1, hf⟩ := ig hf
  obtain ⟨z1, h1, e1, hf⟩ := ob2 hf
  refine r_callV C hw (mX5_keepEntries e1) kXX5_keepEntries ck5 rfl kb1 w575 w577 v12 ⟨Nat.le_of_ble_eq_true rfl, Nat.le_of_ble_eq_true rfl⟩ rfl hl.1 (rest := []) rfl (Nat.le_of_ble_eq_true rfl) dX5_handleAppend_86 (mc := 0) (ms := 0) rfl rfl ⟨by show _ + 0 ≤ 1; omega, by show _ + 0 ≤ 9; omega⟩ (fun H locs hw => ?_)
  refine W.eq (g2 := F0 m 89 ls [.int z1]) rfl ?_
  refine lv_if_ne (tgt := 93) hx hb dX5_handleAppend_89 (by decide) (fun c2 => ?_) (fun c2 => ?_)
  · have hf := ie hf c2
    refine lv_aload_n hx hb dX5_handleAppend_93 rfl (lv_at hl 1 rfl) ?_
    obtain ⟨z3, e3, hf⟩ := ob hf
    refine r_gI C hw e3 ck4 rfl (by decide) w414 dX5_handleAppend_94 ?_
    refine lv_aload_n hx hb dX5_handleAppend_97 rfl (lv_at hl 1 rfl) ?_
    obtain ⟨kb4, hf⟩ := ig hf
    obtain ⟨z4, h4, e4, hf⟩ := ob2 hf
    refine r_callV C hw (mX4_entryCount e4) kXX4_entryCount ck4 rfl kb4 w579 w580 w581 ⟨Nat.le_of_ble_eq_true rfl, Nat.le_of_ble_eq_true rfl⟩ rfl hl.1 (rest := [.int z3]) rfl (Nat.le_of_ble_eq_true rfl) dX5_handleAppend_98 (mc := 0) (ms := 0) rfl rfl ⟨by show _ + 0 ≤ 1; omega, by show _ + 0 ≤ 9; omega⟩ (fun H locs hw => ?_)
    refine W.eq (g2 := F0 m 101 ls [.int z4, .int z3]) rfl ?_
    refine lv_iadd hx hb dX5_handleAppend_101 ?_
    refine lv_istore_n (lv' := [(3, .int (z3 + z4)), (0, .ref x0), (1, .ref x1), (2, .int x2)]) hx hb dX5_handleAppend_102 rfl hl (by decide) rfl (fun ls hl => ?_)
    refine lv_aload_n hx hb dX5_handleAppend_103 rfl (lv_at hl 1 rfl) ?_
    refine lv_aload_n hx hb dX5_handleAppend_104 rfl (lv_at hl 1 rfl) ?_
    obtain ⟨z5, e5, hf⟩ := ob hf
    refine r_gI C hw e5 ck5 rfl (by decide) w200 dX5_handleAppend_105 ?_
    refine lv_aload_n hx hb dX5_handleAppend_108 rfl (lv_at hl 2 rfl) ?_
    obtain ⟨z6, e6, hf⟩ := ob hf
    refine r_gI C hw e6 ck4 rfl (by decide) w420 dX5_handleAppend_109 ?_
    refine lv_iload_n hx hb dX5_handleAppend_112 rfl (lv_at hl 0 rfl) ?_
    refine va_mmin hx hb (by rw [C.2.2.1]; exact hl.1.symm) C.2.2.2.1 (C.2.2.2.2.1 _ w583) (C.2.2.2.2.1 _ w566) (C.2.2.2.2.1 _ w18) (C.2.2.2.2.1 _ w567) (Nat.le_of_ble_eq_true rfl) (Nat.le_of_ble_eq_true rfl) (by show _ ≤ 1; omega) (by show _ ≤ 9; omega) dX5_handleAppend_113 ?_
    refine W.eq (g2 := F0 m 116 ls [.int (mn z6 (z3 + z4)), .int z5, .ref x0]) rfl ?_
    refine va_mmax hx hb (by rw [C.2.2.1]; exact hl.1.symm) C.2.2.2.1 (C.2.2.2.2.1 _ w584) (C.2.2.2.2.1 _ w569) (C.2.2.2.2.1 _ w18) (C.2.2.2.2.1 _ w570) (Nat.le_of_ble_eq_true rfl) (Nat.le_of_ble_eq_true rfl) (by show _ ≤ 1; omega) (by show _ ≤ 9; omega) dX5_handleAppend_116 ?_
    refine W.eq (g2 := F0 m 119 ls [.int (mx z5 (mn z6 (z3 + z4))), .ref x0]) rfl ?_
    obtain ⟨h7, e7, hf⟩ := ob hf
    refine r_pI C hw e7 ck5 rfl (by decide) rfl w200 (Or.inl rfl) dX5_handleAppend_119 (fun H locs hw => ?_)
    refine lv_aload_n hx hb dX5_handleAppend_122 rfl (lv_at hl 1 rfl) ?_
    refine lv_aload_n hx hb dX5_handleAppend_123 rfl (lv_at hl 2 rfl) ?_
    refine lv_iconst (v := (3 : Int32)) hx hb dX5_handleAppend_124 (by decide) ?_
    refine lv_iload_n hx hb dX5_handleAppend_125 rfl (lv_at hl 0 rfl) ?_
    refine lv_iload_n hx hb dX5_handleAppend_126 rfl (lv_at hl 3 rfl) ?_
    refine va_mmax hx hb (by rw [C.2.2.1]; exact hl.1.symm) C.2.2.2.1 (C.2.2.2.2.1 _ w584) (C.2.2.2.2.1 _ w569) (C.2.2.2.2.1 _ w18) (C.2.2.2.2.1 _ w570) (Nat.le_of_ble_eq_true rfl) (Nat.le_of_ble_eq_true rfl) (by show _ ≤ 1; omega) (by show _ ≤ 9; omega) dX5_handleAppend_127 ?_
    refine W.eq (g2 := F0 m 130 ls [.int (mx (z3 + z4) x2), .int (3 : Int32), .ref x1, .ref x0]) rfl ?_
    obtain ⟨kb8, hf⟩ := ig hf
    obtain ⟨z8, h8, e8, hf⟩ := ob2 hf
    refine r_callV C hw (mX5_reply e8) kXX5_reply ck5 rfl kb8 w468 w470 v6 ⟨Nat.le_of_ble_eq_true rfl, Nat.le_of_ble_eq_true rfl⟩ rfl hl.1 (rest := []) rfl (Nat.le_of_ble_eq_true rfl) dX5_handleAppend_130 (mc := 1) (ms := 9) rfl rfl ⟨by show _ + 1 ≤ 1; omega, by show _ + 9 ≤ 9; omega⟩ (fun H locs hw => ?_)
    refine W.eq (g2 := F0 m 133 ls []) rfl ?_
    obtain ⟨rfl, rfl⟩ := sp hf
    exact r_vret C hw rfl (by omega) (by omega) dX5_handleAppend_133
  · have hf := ip hf c2
    obtain ⟨rfl, rfl⟩ := sp hf
    exact r_vret C hw rfl (by omega) (by omega) dX5_handleAppend_92
set_option maxRecDepth 100000 in
set_option maxHeartbeats 4000000 in
theorem bX5_handleAppend {D : va_G} {cy : Nat → ClassId} {s0 : Nat} {p : Program} {l : Launch} {e : Env} {s : State} {m : MethodId} {args : Array Value} {below : List Frame} {meth : Method} {c : Code} (C : CX D cy s0 p s m args meth c cX5_handleAppend 4 RX5 none) (hn : meth.name = "handleAppend") : ∀ (x0 : Nat) (x1 : Nat) (h : Hp) (r : Unit × Hp), fX5_handleAppend x0 x1 h = some r → pX5_handleAppend D cy s0 p l e s m args below meth c r x0 x1 h := by
  intro x0 x1 h ⟨rv, rh⟩ hf H locs ls cells slots hc hs hw hl
  unfold fX5_handleAppend at hf
  have hx := C.1
  have hb := C.2.1
  refine lv_aload_n hx hb dX5_handleAppend_0 rfl (lv_at hl 0 rfl) ?_
  refine lv_iconst (v := (0 : Int32)) hx hb dX5_handleAppend_1 (by decide) ?_
  obtain ⟨h1, e1, hf⟩ := ob hf
  refine r_pI C hw e1 ck5 rfl (by decide) rfl w197 (Or.inl rfl) dX5_handleAppend_2 (fun H locs hw => ?_)
  refine lv_aload_n hx hb dX5_handleAppend_5 rfl (lv_at hl 0 rfl) ?_
  obtain ⟨z2, e2, hf⟩ := ob hf
  refine r_gR C hw e2 ck5 rfl (by decide) w189 dX5_handleAppend_6 ?_
  cases z2 with
  | none =>
    have hf := on_n hf
    cases hf
  | some a3 =>
    have hf := on_s hf
    refine W.eq (g2 := F0 m 9 ls [.ref a3]) rfl ?_
    obtain ⟨z4, e4, hf⟩ := ob hf
    refine r_gR C hw e4 ck1 rfl (by decide) w171 dX5_handleAppend_9 ?_
    cases z4 with
    | none =>
      have hf := on_n hf
      cases hf
    | some a5 =>
      have hf := on_s hf
      refine W.eq (g2 := F0 m 12 ls [.ref a5]) rfl ?_
      obtain ⟨z6, e6, hf⟩ := ob hf
      refine r_gI C hw e6 ck6 rfl (by decide) w135 dX5_handleAppend_12 ?_
      refine lv_istore_n (lv' := [(2, .int z6), (0, .ref x0), (1, .ref x1)]) hx hb dX5_handleAppend_15 rfl hl (by decide) rfl (fun ls hl => ?_)
      refine lv_aload_n hx hb dX5_handleAppend_16 rfl (lv_at hl 2 rfl) ?_
      obtain ⟨z7, e7, hf⟩ := ob hf
      refine r_gI C hw e7 ck4 rfl (by decide) w414 dX5_handleAppend_17 ?_
      refine lv_aload_n hx hb dX5_handleAppend_20 rfl (lv_at hl 1 rfl) ?_
      obtain ⟨z8, e8, hf⟩ := ob hf
      refine r_gR C hw e8 ck5 rfl (by decide) w189 dX5_handleAppend_21 ?_
      cases z8 with
      | none =>
        have hf := on_n hf
        cases hf
      | some a9 =>
        have hf := on_s hf
        refine W.eq (g2 := F0 m 24 ls [.ref a9, .int z7]) rfl ?_
        obtain ⟨z10, e10, hf⟩ := ob hf
        refine r_gI C hw e10 ck1 rfl (by decide) w166 dX5_handleAppend_24 ?_
        refine lv_icmp_le (tgt := 44) hx hb dX5_handleAppend_27 (by decide) (fun c11 => ?_) (fun c11 => ?_)
        · have hf := ip hf c11
          refine lv_aload_n hx hb dX5_handleAppend_44 rfl (lv_at hl 2 rfl) ?_
          obtain ⟨z12, e12, hf⟩ := ob hf
          refine r_gI C hw e12 ck4 rfl (by decide) w414 dX5_handleAppend_45 ?_
          refine lv_iload_n hx hb dX5_handleAppend_48 rfl (lv_at hl 0 rfl) ?_
          refine lv_icmp_lt (tgt := 83) hx hb dX5_handleAppend_49 (by decide) (fun c13 => ?_) (fun c13 => ?_)
          · have hf := ip hf c13
            exact bX5_handleAppend_83 C hn _ _ _ _ _ hf _ _ _ _ _ (by omega) (by omega) hw (lv_sub hl [1, 2, 0] rfl)
          · have hf := ie hf c13
            refine lv_aload_n hx hb dX5_handleAppend_52 rfl (lv_at hl 1 rfl) ?_
            obtain ⟨z14, e14, hf⟩ := ob hf
            refine r_gR C hw e14 ck5 rfl (by decide) w189 dX5_handleAppend_53 ?_
            cases z14 with
            | none =>
              have hf := on_n hf
              cases hf
            | some a15 =>
              have hf := on_s hf
              refine W.eq (g2 := F0 m 56 ls [.ref a15]) rfl ?_
              refine lv_aload_n hx hb dX5_handleAppend_56 rfl (lv_at hl 2 rfl) ?_
              obtain ⟨z16, e16, hf⟩ := ob hf
              refine r_gI C hw e16 ck4 rfl (by decide) w414 dX5_handleAppend_57 ?_
              obtain ⟨kb17, hf⟩ := ig hf
              obtain ⟨z17, h17, e17, hf⟩ := ob2 hf
              refine r_callV C hw (mX1_termAt e17) kXX1_termAt ck1 rfl kb17 w390 w391 w392 ⟨Nat.le_of_ble_eq_true rfl, Nat.le_of_ble_eq_true rfl⟩ rfl hl.1 (rest := []) rfl (Nat.le_of_ble_eq_true rfl) dX5_handleAppend_60 (mc := 0) (ms := 0) rfl rfl ⟨by show _ + 0 ≤ 1; omega, by show _ + 0 ≤ 9; omega⟩ (fun H locs hw => ?_)
              refine W.eq (g2 := F0 m 63 ls [.int z17]) rfl ?_
              refine lv_aload_n hx hb dX5_handleAppend_63 rfl (lv_at hl 2 rfl) ?_
              obtain ⟨z18, e18, hf⟩ := ob hf
              refine r_gI C hw e18 ck4 rfl (by decide) w416 dX5_handleAppend_64 ?_
              refine lv_icmp_eq (tgt := 83) hx hb dX5_handleAppend_67 (by decide) (fun c19 => ?_) (fun c19 => ?_)
              · have hf := ip hf c19
                exact bX5_handleAppend_83 C hn _ _ _ _ _ hf _ _ _ _ _ (by omega) (by omega) hw (lv_sub hl [1, 2, 0] rfl)
              · have hf := ie hf c19
                refine lv_aload_n hx hb dX5_handleAppend_70 rfl (lv_at hl 1 rfl) ?_
                refine lv_aload_n hx hb dX5_handleAppend_71 rfl (lv_at hl 2 rfl) ?_
                refine lv_iconst (v := (4 : Int32)) hx hb dX5_handleAppend_72 (by decide) ?_
                refine lv_aload_n hx hb dX5_handleAppend_73 rfl (lv_at hl 2 rfl) ?_
                obtain ⟨z20, e20, hf⟩ := ob hf
                refine r_gI C hw e20 ck4 rfl (by decide) w414 dX5_handleAppend_74 ?_
                refine lv_iconst (v := (1 : Int32)) hx hb dX5_handleAppend_77 (by decide) ?_
                refine lv_isub hx hb dX5_handleAppend_78 ?_
                obtain ⟨kb21, hf⟩ := ig hf
                obtain ⟨z21, h21, e21, hf⟩ := ob2 hf
                refine r_callV C hw (mX5_reply e21) kXX5_reply ck5 rfl kb21 w468 w470 v6 ⟨Nat.le_of_ble_eq_true rfl, Nat.le_of_ble_eq_true rfl⟩ rfl hl.1 (rest := []) rfl (Nat.le_of_ble_eq_true rfl) dX5_handleAppend_79 (mc := 1) (ms := 9) rfl rfl ⟨by show _ + 1 ≤ 1; omega, by show _ + 9 ≤ 9; omega⟩ (fun H locs hw => ?_)
                refine W.eq (g2 := F0 m 82 ls []) rfl ?_
                obtain ⟨rfl, rfl⟩ := sp hf
                exact r_vret C hw rfl (by omega) (by omega) dX5_handleAppend_82
        · have hf := ie hf c11
          refine lv_aload_n hx hb dX5_handleAppend_30 rfl (lv_at hl 1 rfl) ?_
          refine lv_aload_n hx hb dX5_handleAppend_31 rfl (lv_at hl 2 rfl) ?_
          refine lv_iconst (v := (4 : Int32)) hx hb dX5_handleAppend_32 (by decide) ?_
          refine lv_aload_n hx hb dX5_handleAppend_33 rfl (lv_at hl 1 rfl) ?_
          obtain ⟨z24, e24, hf⟩ := ob hf
          refine r_gR C hw e24 ck5 rfl (by decide) w189 dX5_handleAppend_34 ?_
          cases z24 with
          | none =>
            have hf := on_n hf
            cases hf
          | some a25 =>
            have hf := on_s hf
            refine W.eq (g2 := F0 m 37 ls [.ref a25, .int (4 : Int32), .ref x1, .ref x0]) rfl ?_
            obtain ⟨z26, e26, hf⟩ := ob hf
            refine r_gI C hw e26 ck1 rfl (by decide) w166 dX5_handleAppend_37 ?_
            obtain ⟨kb27, hf⟩ := ig hf
            obtain ⟨z27, h27, e27, hf⟩ := ob2 hf
            refine r_callV C hw (mX5_reply e27) kXX5_reply ck5 rfl kb27 w468 w470 v6 ⟨Nat.le_of_ble_eq_true rfl, Nat.le_of_ble_eq_true rfl⟩ rfl hl.1 (rest := []) rfl (Nat.le_of_ble_eq_true rfl) dX5_handleAppend_40 (mc := 1) (ms := 9) rfl rfl ⟨by show _ + 1 ≤ 1; omega, by show _ + 9 ≤ 9; omega⟩ (fun H locs hw => ?_)
            refine W.eq (g2 := F0 m 43 ls []) rfl ?_
            obtain ⟨rfl, rfl⟩ := sp hf
            exact r_vret C hw rfl (by omega) (by omega) dX5_handleAppend_43
theorem kXX5_handleAppend : MK yX5_handleAppend cX5_handleAppend 4 none 1 := ⟨w574, w6, by decide +kernel⟩
theorem mX5_handleAppend {D : va_G} {cy : Nat → ClassId} {s0 : Nat} {l : Launch} {x0 : Nat} {x1 : Nat} {h : Hp} {v : Unit} {h1 : Hp} (hf : fX5_handleAppend x0 x1 h = some (v, h1)) : MT D cy s0 l yX5_handleAppend cX5_handleAppend 4 none rX5_handleAppend [.ref x0, .ref x1] h none h1 := by
  refine MT.of (by decide +kernel) (Nat.le_of_ble_eq_true rfl) ?_
  intro p e s m below meth c H locs ls C hn hw hl
  exact bX5_handleAppend C hn _ _ _ _ hf _ _ _ _ _ (Nat.le_of_ble_eq_true rfl) (Nat.le_of_ble_eq_true rfl) hw hl
