def fX10_counts_130 (x0 : Nat) (x1 : Int32) (h : Hp) : Option (Unit × Hp) :=
  if hK h x0 = some (10, 0) then (bd2 (fX10_sendAll x0 x1 h) fun _ h1 => some ((), h1)) else none
def fX10_counts_59_body (k59 : Nat → Int32 → Int32 → Hp → Option (Unit × Hp)) (x0 : Nat) (x1 : Int32) (x4 : Int32) (h : Hp) : Option (Unit × Hp) :=
  if (5 : Int32) ≤ x4 then (bd (gR h 10 5 x0) fun z2 => onR z2 (none) fun a3 => bd (ldI h 11 a3 x1) fun z4 => if (1200 : Int32) ≤ z4 then (fX10_counts_130 x0 x1 h) else (if hK h x0 = some (10, 0) then (bd2 (fX10_adds x0 x1 (0 : Int32) (0 : Int32) (0 : Int32) (0 : Int32) (0 : Int32) (0 : Int32) (0 : Int32) h) fun z6 h6 => if z6 = 0 then (some ((), h6)) else (fX10_counts_130 x0 x1 h6)) else none)) else (bd (gR h 10 11 x0) fun z8 => onR z8 (none) fun a9 => bd (gR h 10 5 x0) fun z10 => onR z10 (none) fun a11 => bd (ldI h 11 a11 x1) fun z12 => bd (stI h 11 a9 (((5 : Int32) * x1) + x4) (z12 + (1 : Int32))) fun h13 => bd (gR h13 10 12 x0) fun z14 => onR z14 (none) fun a15 => bd (stI h13 11 a15 (((5 : Int32) * x1) + x4) (0 : Int32)) fun h16 => k59 x0 x1 (x4 + (1 : Int32)) h16)
def fX10_counts_59 : Nat → Nat → Int32 → Int32 → Hp → Option (Unit × Hp)
  | 0 => fun _ _ _ _ => none
  | n + 1 => fX10_counts_59_body (fX10_counts_59 n)
def fX10_counts_17_body (k17 : Nat → Int32 → Int32 → Int32 → Hp → Option (Unit × Hp)) (x0 : Nat) (x1 : Int32) (x3 : Int32) (x4 : Int32) (h : Hp) : Option (Unit × Hp) :=
  if (5 : Int32) ≤ x4 then (if (3 : Int32) ≤ x3 then (bd (gR h 10 8 x0) fun z3 => onR z3 (none) fun a4 => bd (stI h 11 a4 x1 (2 : Int32)) fun h5 => fX10_counts_59 LF x0 x1 (0 : Int32) h5) else (some ((), h))) else (bd (gR h 10 9 x0) fun z6 => onR z6 (none) fun a7 => bd (ldI h 11 a7 x1) fun z8 => k17 x0 x1 (x3 + ((z8 >>> (x4 &&& 31)) &&& (1 : Int32))) (x4 + (1 : Int32)) h)
def fX10_counts_17 : Nat → Nat → Int32 → Int32 → Int32 → Hp → Option (Unit × Hp)
  | 0 => fun _ _ _ _ _ => none
  | n + 1 => fX10_counts_17_body (fX10_counts_17 n)
def fX10_counts (x0 : Nat) (x1 : Int32) (x2 : Int32) (h : Hp) : Option (Unit × Hp) :=
  bd (gR h 10 9 x0) fun z1 => onR z1 (none) fun a2 => bd (ldI h 11 a2 x1) fun z3 => bd (stI h 11 a2 x1 (z3 ||| ((1 : Int32) <<< (x2 &&& 31)))) fun h4 => fX10_counts_17 LF x0 x1 (0 : Int32) (0 : Int32) h4
def fX10_crash_35 (x0 : Nat) (x1 : Int32) (y0 : Int32) (y1 : Nat) (h : Hp) : Option (Unit × Hp) :=
  if hK h y1 = some (10, 0) then (bd2 (fX10_bad y1 y0 (2 : Int32) h) fun z1 h1 => if z1 = 0 then (if hK h1 x0 = some (10, 0) then (bd2 (fX10_down x0 x1 h1) fun _ h3 => some ((), h3)) else none) else (some ((), h1))) else none
def fX10_crash_13 (x0 : Nat) (x1 : Int32) (y0 : Int32) (y1 : Nat) (h : Hp) : Option (Unit × Hp) :=
  if hK h y1 = some (10, 0) then (bd2 (fX10_bad y1 y0 (1 : Int32) h) fun z1 h1 => if z1 = 0 then (bd (gR h1 10 1 x0) fun z3 => onR z3 (none) fun a4 => bd (ldI h1 13 a4 x1) fun z5 => if z5 = 0 then (fX10_crash_35 x0 x1 (1 : Int32) x0 h1) else (fX10_crash_35 x0 x1 (0 : Int32) x0 h1)) else (some ((), h1))) else none
def fX10_crash (x0 : Nat) (x1 : Int32) (h : Hp) : Option (Unit × Hp) :=
  bd2 (fX10_isNode x1 h) fun z1 h1 => if z1 = 0 then (fX10_crash_13 x0 x1 (1 : Int32) x0 h1) else (fX10_crash_13 x0 x1 (0 : Int32) x0 h1)
def fX10_installs_176 (x0 : Nat) (x1 : Int32) (x2 : Int32) (x3 : Int32) (h : Hp) : Option (Unit × Hp) :=
  bd (gR h 10 6 x0) fun z1 => onR z1 (none) fun a2 => bd (gR h 10 19 x0) fun z3 => onR z3 (none) fun a4 => bd (ldI h 11 a4 x1) fun z5 => bd (stI h 11 a2 x2 z5) fun h6 => bd (gR h6 10 7 x0) fun z7 => onR z7 (none) fun a8 => bd (gR h6 10 19 x0) fun z9 => onR z9 (none) fun a10 => bd (ldI h6 11 a10 x1) fun z11 => bd (stI h6 11 a8 x2 z11) fun h12 => bd (gR h12 10 14 x0) fun z13 => onR z13 (none) fun a14 => bd (ldI h12 11 a14 x2) fun z15 => bd (stI h12 11 a14 x2 (z15 + (1 : Int32))) fun h16 => bd (gR h16 10 19 x0) fun z17 => onR z17 (none) fun a18 => bd (ldI h16 11 a18 x1) fun z19 => if hK h16 x0 = some (10, 0) then (bd2 (fX10_answer x0 (3 : Int32) x2 x3 z19 h16) fun _ h20 => some ((), h20)) else none
def fX10_installs_90_body (k90 : Nat → Int32 → Int32 → Int32 → Int32 → Int32 → Hp → Option (Unit × Hp)) (x0 : Nat) (x1 : Int32) (x2 : Int32) (x3 : Int32) (x4 : Int32) (x5 : Int32) (h : Hp) : Option (Unit × Hp) :=
  bd (gR h 10 19 x0) fun z1 => onR z1 (none) fun a2 => bd (ldI h 11 a2 x1) fun z3 => if ((z3 + (1 : Int32)) * (8 : Int32)) ≤ x5 then (bd (gR h 10 4 x0) fun z5 => onR z5 (none) fun a6 => bd (gR h 10 19 x0) fun z7 => onR z7 (none) fun a8 => bd (ldI h 11 a8 x1) fun z9 => bd (stI h 11 a6 x2 z9) fun h10 => if x4 = 0 then (bd (gR h10 10 5 x0) fun z12 => onR z12 (none) fun a13 => bd (gR h10 10 19 x0) fun z14 => onR z14 (none) fun a15 => bd (ldI h10 11 a15 x1) fun z16 => bd (stI h10 11 a13 x2 z16) fun h17 => fX10_installs_176 x0 x1 x2 x3 h17) else (fX10_installs_176 x0 x1 x2 x3 h10)) else (bd (gR h 10 13 x0) fun z24 => onR z24 (none) fun a25 => if hK h x0 = some (10, 0) then (bd2 (fX10_at x0 x2 (0 : Int32) h) fun z26 h26 => bd (gR h26 10 25 x0) fun z27 => onR z27 (none) fun a28 => bd (gR h26 10 26 x0) fun z29 => onR z29 (none) fun a30 => bd (ldI h26 11 a30 x1) fun z31 => bd (ldI h26 11 a28 (((z31 * (1201 : Int32)) * (8 : Int32)) + x5)) fun z32 => bd (stI h26 11 a25 (z26 + x5) z32) fun h33 => k90 x0 x1 x2 x3 x4 (x5 + (1 : Int32)) h33) else none)
def fX10_installs_90 : Nat → Nat → Int32 → Int32 → Int32 → Int32 → Int32 → Hp → Option (Unit × Hp)
  | 0 => fun _ _ _ _ _ _ _ => none
  | n + 1 => fX10_installs_90_body (fX10_installs_90 n)
def fX10_installs_85 (x0 : Nat) (x1 : Int32) (x2 : Int32) (x3 : Int32) (y0 : Int32) (h : Hp) : Option (Unit × Hp) :=
  fX10_installs_90 LF x0 x1 x2 x3 y0 (0 : Int32) h
def fX10_installs_84 (x0 : Nat) (x1 : Int32) (x2 : Int32) (x3 : Int32) (h : Hp) : Option (Unit × Hp) :=
  fX10_installs_85 x0 x1 x2 x3 (0 : Int32) h
def fX10_installs (x0 : Nat) (x1 : Int32) (x2 : Int32) (x3 : Int32) (h : Hp) : Option (Unit × Hp) :=
  bd (gR h 10 8 x0) fun z1 => onR z1 (none) fun a2 => bd (stI h 11 a2 x2 (0 : Int32)) fun h3 => bd (gR h3 10 6 x0) fun z4 => onR z4 (none) fun a5 => bd (ldI h3 11 a5 x2) fun z6 => bd (gR h3 10 19 x0) fun z7 => onR z7 (none) fun a8 => bd (ldI h3 11 a8 x1) fun z9 => if z6 < z9 then (if hK h3 x0 = some (10, 0) then (bd2 (fX10_record x0 x2 h3) fun z11 h11 => if z11 = 0 then (some ((), h11)) else (bd (gR h11 10 19 x0) fun z13 => onR z13 (none) fun a14 => bd (ldI h11 11 a14 x1) fun z15 => bd (gR h11 10 5 x0) fun z16 => onR z16 (none) fun a17 => bd (ldI h11 11 a17 x2) fun z18 => if z18 < z15 then (fX10_installs_84 x0 x1 x2 x3 h11) else (bd (gR h11 10 19 x0) fun z20 => onR z20 (none) fun a21 => bd (ldI h11 11 a21 x1) fun z22 => if hK h11 x0 = some (10, 0) then (bd2 (fX10_termAt x0 x2 z22 h11) fun z23 h23 => bd (gR h23 10 20 x0) fun z24 => onR z24 (none) fun a25 => bd (ldI h23 11 a25 x1) fun z26 => if z23 = z26 then (fX10_installs_85 x0 x1 x2 x3 (1 : Int32) h23) else (fX10_installs_84 x0 x1 x2 x3 h23)) else none))) else none) else (bd (gR h3 10 6 x0) fun z28 => onR z28 (none) fun a29 => bd (ldI h3 11 a29 x2) fun z30 => if hK h3 x0 = some (10, 0) then (bd2 (fX10_answer x0 (3 : Int32) x2 x3 z30 h3) fun _ h31 => some ((), h31)) else none)
def fX10_got_294 (x0 : Nat) (x2 : Int32) (x3 : Int32) (h : Hp) : Option (Unit × Hp) :=
  if hK h x0 = some (10, 0) then (bd2 (fX10_send x0 x2 x3 h) fun _ h1 => some ((), h1)) else none
def fX10_got_102 (x0 : Nat) (x2 : Int32) (x3 : Int32) (h : Hp) : Option (Unit × Hp) :=
  bd (gR h 10 5 x0) fun z1 => onR z1 (none) fun a2 => bd (ldI h 11 a2 x2) fun z3 => if hK h x0 = some (10, 0) then (bd2 (fX10_answer x0 (4 : Int32) x2 x3 z3 h) fun _ h4 => some ((), h4)) else none
def fX10_got_82 (x0 : Nat) (x1 : Int32) (x2 : Int32) (x3 : Int32) (h : Hp) : Option (Unit × Hp) :=
  bd (gR h 10 15 x0) fun z1 => onR z1 (none) fun a2 => bd (ldI h 11 a2 x1) fun z3 => if z3 = (2 : Int32) then (fX10_got_102 x0 x2 x3 h) else (bd (gR h 10 15 x0) fun z5 => onR z5 (none) fun a6 => bd (ldI h 11 a6 x1) fun z7 => if z7 = (5 : Int32) then (fX10_got_102 x0 x2 x3 h) else (some ((), h)))
def fX10_got_50 (x0 : Nat) (x1 : Int32) (x2 : Int32) (x3 : Int32) (h : Hp) : Option (Unit × Hp) :=
  bd (gR h 10 18 x0) fun z1 => onR z1 (none) fun a2 => bd (ldI h 11 a2 x1) fun z3 => bd (gR h 10 2 x0) fun z4 => onR z4 (none) fun a5 => bd (ldI h 11 a5 x2) fun z6 => if z6 ≤ z3 then (bd (gR h 10 15 x0) fun z8 => onR z8 (none) fun a9 => bd (ldI h 11 a9 x1) fun z10 => if z10 = (0 : Int32) then (if hK h x0 = some (10, 0) then (bd2 (fX10_asked x0 x1 x2 x3 h) fun _ h12 => some ((), h12)) else none) else (if z10 = (1 : Int32) then (bd (gR h 10 8 x0) fun z13 => onR z13 (none) fun a14 => bd (ldI h 11 a14 x2) fun z15 => if z15 = (1 : Int32) then (bd (gR h 10 19 x0) fun z17 => onR z17 (none) fun a18 => bd (ldI h 11 a18 x1) fun z19 => if z19 = (1 : Int32) then (if hK h x0 = some (10, 0) then (bd2 (fX10_counts x0 x2 x3 h) fun _ h21 => some ((), h21)) else none) else (some ((), h))) else (some ((), h))) else (if z10 = (2 : Int32) then (if hK h x0 = some (10, 0) then (bd2 (fX10_appends x0 x1 x2 x3 h) fun _ h22 => some ((), h22)) else none) else (if z10 = (3 : Int32) then (bd (gR h 10 8 x0) fun z23 => onR z23 (none) fun a24 => bd (ldI h 11 a24 x2) fun z25 => if z25 = (2 : Int32) then (bd (gR h 10 19 x0) fun z27 => onR z27 (none) fun a28 => bd (ldI h 11 a28 x1) fun z29 => if hK h x0 = some (10, 0) then (bd2 (fX10_accepted x0 x2 x3 z29 h) fun _ h30 => some ((), h30)) else none) else (some ((), h))) else (if z10 = (4 : Int32) then (bd (gR h 10 8 x0) fun z31 => onR z31 (none) fun a32 => bd (ldI h 11 a32 x2) fun z33 => if z33 = (2 : Int32) then (bd (gR h 10 11 x0) fun z35 => onR z35 (none) fun a36 => bd (ldI h 11 a36 (((5 : Int32) * x2) + x3)) fun z37 => bd (gR h 10 19 x0) fun z38 => onR z38 (none) fun a39 => bd (ldI h 11 a39 x1) fun z40 => if z37 ≤ (z40 + (1 : Int32)) then (fX10_got_294 x0 x2 x3 h) else (bd (gR h 10 11 x0) fun z42 => onR z42 (none) fun a43 => bd (gR h 10 19 x0) fun z44 => onR z44 (none) fun a45 => bd (ldI h 11 a45 x1) fun z46 => bd (gR h 10 12 x0) fun z47 => onR z47 (none) fun a48 => bd (ldI h 11 a48 (((5 : Int32) * x2) + x3)) fun z49 => bd (stI h 11 a43 (((5 : Int32) * x2) + x3) (mx (z46 + (1 : Int32)) (z49 + (1 : Int32)))) fun h50 => fX10_got_294 x0 x2 x3 h50)) else (some ((), h))) else (if hK h x0 = some (10, 0) then (bd2 (fX10_installs x0 x1 x2 x3 h) fun _ h11 => some ((), h11)) else none)))))) else (bd (gR h 10 15 x0) fun z62 => onR z62 (none) fun a63 => bd (ldI h 11 a63 x1) fun z64 => if z64 = 0 then (if hK h x0 = some (10, 0) then (bd2 (fX10_answer x0 (1 : Int32) x2 x3 (0 : Int32) h) fun _ h66 => fX10_got_82 x0 x1 x2 x3 h66) else none) else (fX10_got_82 x0 x1 x2 x3 h))
def fX10_got (x0 : Nat) (x1 : Int32) (x2 : Int32) (x3 : Int32) (h : Hp) : Option (Unit × Hp) :=
  bd (gR h 10 18 x0) fun z1 => onR z1 (none) fun a2 => bd (ldI h 11 a2 x1) fun z3 => bd (gR h 10 2 x0) fun z4 => onR z4 (none) fun a5 => bd (ldI h 11 a5 x2) fun z6 => if z3 ≤ z6 then (fX10_got_50 x0 x1 x2 x3 h) else (if hK h x0 = some (10, 0) then (bd2 (fX10_record x0 x2 h) fun z8 h8 => if z8 = 0 then (some ((), h8)) else (bd (gR h8 10 2 x0) fun z10 => onR z10 (none) fun a11 => bd (gR h8 10 18 x0) fun z12 => onR z12 (none) fun a13 => bd (ldI h8 11 a13 x1) fun z14 => bd (stI h8 11 a11 x2 z14) fun h15 => bd (gR h15 10 3 x0) fun z16 => onR z16 (none) fun a17 => bd (stI h15 11 a17 x2 (-1 : Int32)) fun h18 => bd (gR h18 10 8 x0) fun z19 => onR z19 (none) fun a20 => bd (stI h18 11 a20 x2 (0 : Int32)) fun h21 => fX10_got_50 x0 x1 x2 x3 h21)) else none)
abbrev rX10_counts : Room := { frames := 4, cells := 0, slots := 0, locals := 95 }
abbrev pX10_counts_130 (D : va_G) (cy : Nat → ClassId) (s0 : Nat) (p : Program) (l : Launch) (e : Env) (s : State) (m : MethodId) (args : Array Value) (below : List Frame) (meth : Method) (c : Code) (r : Unit × Hp) (x0 : Nat) (x1 : Int32) (h : Hp) : Prop := ∀ (H : Heap) (locs : List Loc) (ls : Array Slot) (cells slots : Nat), cells + (0) ≤ 0 → slots + (0) ≤ 0 → WS D cy s0 s h H locs → lv_has ls 5 [(0, .ref x0), (1, .int x1)] → W p l e rX10_counts s m args below meth c H locs cells slots (MQ below (QQ D cy s0 none r.2) args s 0 0 (fun q => s0 ≤ q)) (F0 m 130 ls [])
abbrev pX10_counts_59 (D : va_G) (cy : Nat → ClassId) (s0 : Nat) (p : Program) (l : Launch) (e : Env) (s : State) (m : MethodId) (args : Array Value) (below : List Frame) (meth : Method) (c : Code) (r : Unit × Hp) (x0 : Nat) (x1 : Int32) (x4 : Int32) (h : Hp) : Prop := ∀ (H : Heap) (locs : List Loc) (ls : Array Slot) (cells slots : Nat), cells + (0) ≤ 0 → slots + (0) ≤ 0 → WS D cy s0 s h H locs → lv_has ls 5 [(0, .ref x0), (1, .int x1), (4, .int x4)] → W p l e rX10_counts s m args below meth c H locs cells slots (MQ below (QQ D cy s0 none r.2) args s 0 0 (fun q => s0 ≤ q)) (F0 m 59 ls [])
abbrev pX10_counts_17 (D : va_G) (cy : Nat → ClassId) (s0 : Nat) (p : Program) (l : Launch) (e : Env) (s : State) (m : MethodId) (args : Array Value) (below : List Frame) (meth : Method) (c : Code) (r : Unit × Hp) (x0 : Nat) (x1 : Int32) (x3 : Int32) (x4 : Int32) (h : Hp) : Prop := ∀ (H : Heap) (locs : List Loc) (ls : Array Slot) (cells slots : Nat), cells + (0) ≤ 0 → slots + (0) ≤ 0 → WS D cy s0 s h H locs → lv_has ls 5 [(0, .ref x0), (1, .int x1), (3, .int x3), (4, .int x4)] → W p l e rX10_counts s m args below meth c H locs cells slots (MQ below (QQ D cy s0 none r.2) args s 0 0 (fun q => s0 ≤ q)) (F0 m 17 ls [])
abbrev pX10_counts (D : va_G) (cy : Nat → ClassId) (s0 : Nat) (p : Program) (l : Launch) (e : Env) (s : State) (m : MethodId) (args : Array Value) (below : List Frame) (meth : Method) (c : Code) (r : Unit × Hp) (x0 : Nat) (x1 : Int32) (x2 : Int32) (h : Hp) : Prop := ∀ (H : Heap) (locs : List Loc) (ls : Array Slot) (cells slots : Nat), cells + (0) ≤ 0 → slots + (0) ≤ 0 → WS D cy s0 s h H locs → lv_has ls 5 [(0, .ref x0), (1, .int x1), (2, .int x2)] → W p l e rX10_counts s m args below meth c H locs cells slots (MQ below (QQ D cy s0 none r.2) args s 0 0 (fun q => s0 ≤ q)) (F0 m 0 ls [])
set_option maxRecDepth 100000 in
set_option maxHeartbeats 4000000 in
theorem bX10_counts_130 {D : va_G} {cy : Nat → ClassId} {s0 : Nat} {p : Program} {l : Launch} {e : Env} {s : State} {m : MethodId} {args : Array Value} {below : List Frame} {meth : Method} {c : Code} (C : CX D cy s0 p s m args meth c cX10_counts 5 RX10 none) (hn : meth.name = "counts") : ∀ (x0 : Nat) (x1 : Int32) (h : Hp) (r : Unit × Hp), fX10_counts_130 x0 x1 h = some r → pX10_counts_130 D cy s0 p l e s m args below meth c r x0 x1 h := by
  intro x0 x1 h ⟨rv, rh⟩ hf H locs ls cells slots hc hs hw hl
  unfold fX10_counts_130 at hf
  have hx := C.1
  have hb := C.2.1
  refine lv_aload_n hx hb dX10_counts_130 rfl (lv_at hl 0 rfl) ?_
  refine lv_iload_n hx hb dX10_counts_131 rfl (lv_at hl 1 rfl) ?_
  obtain ⟨kb1, hf⟩ := ig hf
  obtain ⟨z1, h1, e1, hf⟩ := ob2 hf
  refine r_callV C hw (mX10_sendAll e1) kXX10_sendAll ck10 rfl kb1 w1184 w1186 v47 ⟨Nat.le_of_ble_eq_true rfl, Nat.le_of_ble_eq_true rfl⟩ rfl hl.1 (rest := []) rfl (Nat.le_of_ble_eq_true rfl) dX10_counts_132 (mc := 0) (ms := 0) rfl rfl ⟨by show _ + 0 ≤ 0; omega, by show _ + 0 ≤ 0; omega⟩ (fun H locs hw => ?_)
  refine W.eq (g2 := F0 m 135 ls []) rfl ?_
  obtain ⟨rfl, rfl⟩ := sp hf
  exact r_vret C hw rfl (by omega) (by omega) dX10_counts_135
set_option maxRecDepth 100000 in
set_option maxHeartbeats 4000000 in
theorem bX10_counts_59_body {D : va_G} {cy : Nat → ClassId} {s0 : Nat} {p : Program} {l : Launch} {e : Env} {s : State} {m : MethodId} {args : Array Value} {below : List Frame} {meth : Method} {c : Code} (C : CX D cy s0 p s m args meth c cX10_counts 5 RX10 none) (hn : meth.name = "counts") {k59 : Nat → Int32 → Int32 → Hp → Option (Unit × Hp)} (hk59 : ∀ (x0 : Nat) (x1 : Int32) (x4 : Int32) (h : Hp) (r : Unit × Hp), k59 x0 x1 x4 h = some r → pX10_counts_59 D cy s0 p l e s m args below meth c r x0 x1 x4 h) : ∀ (x0 : Nat) (x1 : Int32) (x4 : Int32) (h : Hp) (r : Unit × Hp), fX10_counts_59_body k59 x0 x1 x4 h = some r → pX10_counts_59 D cy s0 p l e s m args below meth c r x0 x1 x4 h := by
  intro x0 x1 x4 h ⟨rv, rh⟩ hf H locs ls cells slots hc hs hw hl
  unfold fX10_counts_59_body at hf
  have hx := C.1
  have hb := C.2.1
  refine lv_iload hx hb dX10_counts_59 (lv_at hl 2 rfl) ?_
  refine lv_iconst (v := (5 : Int32)) hx hb dX10_counts_61 (by decide) ?_
  refine lv_icmp_ge (tgt := 102) hx hb dX10_counts_62 (by decide) (fun c1 => ?_) (fun c1 => ?_)
  · have hf := ip hf c1
    refine lv_aload_n hx hb dX10_counts_102 rfl (lv_at hl 0 rfl) ?_
    obtain ⟨z2, e2, hf⟩ := ob hf
    refine r_gR C hw e2 ck10 rfl (by decide) w968 dX10_counts_103 ?_
    cases z2 with
    | none =>
      have hf := on_n hf
      cases hf
    | some a3 =>
      have hf := on_s hf
      refine W.eq (g2 := F0 m 106 ls [.ref a3]) rfl ?_
      refine lv_iload_n hx hb dX10_counts_106 rfl (lv_at hl 1 rfl) ?_
      obtain ⟨z4, e4, hf⟩ := ob hf
      refine r_iald C hw e4 dX10_counts_107 ?_
      refine lv_sipush (v := (1200 : Int32)) hx hb dX10_counts_108 (by decide) ?_
      refine lv_icmp_ge (tgt := 130) hx hb dX10_counts_111 (by decide) (fun c5 => ?_) (fun c5 => ?_)
      · have hf := ip hf c5
        exact bX10_counts_130 C hn _ _ _ _ hf _ _ _ _ _ (by omega) (by omega) hw (lv_sub hl [0, 1] rfl)
      · have hf := ie hf c5
        refine lv_aload_n hx hb dX10_counts_114 rfl (lv_at hl 0 rfl) ?_
        refine lv_iload_n hx hb dX10_counts_115 rfl (lv_at hl 1 rfl) ?_
        refine lv_iconst (v := (0 : Int32)) hx hb dX10_counts_116 (by decide) ?_
        refine lv_iconst (v := (0 : Int32)) hx hb dX10_counts_117 (by decide) ?_
        refine lv_iconst (v := (0 : Int32)) hx hb dX10_counts_118 (by decide) ?_
        refine lv_iconst (v := (0 : Int32)) hx hb dX10_counts_119 (by decide) ?_
        refine lv_iconst (v := (0 : Int32)) hx hb dX10_counts_120 (by decide) ?_
        refine lv_iconst (v := (0 : Int32)) hx hb dX10_counts_121 (by decide) ?_
        refine lv_iconst (v := (0 : Int32)) hx hb dX10_counts_122 (by decide) ?_
        obtain ⟨kb6, hf⟩ := ig hf
        obtain ⟨z6, h6, e6, hf⟩ := ob2 hf
        refine r_callV C hw (mX10_adds e6) kXX10_adds ck10 rfl kb6 w1176 w1178 v45 ⟨Nat.le_of_ble_eq_true rfl, Nat.le_of_ble_eq_true rfl⟩ rfl hl.1 (rest := []) rfl (Nat.le_of_ble_eq_true rfl) dX10_counts_123 (mc := 0) (ms := 0) rfl rfl ⟨by show _ + 0 ≤ 0; omega, by show _ + 0 ≤ 0; omega⟩ (fun H locs hw => ?_)
        refine W.eq (g2 := F0 m 126 ls [.int z6]) rfl ?_
        refine lv_if_ne (tgt := 130) hx hb dX10_counts_126 (by decide) (fun c7 => ?_) (fun c7 => ?_)
        · have hf := ie hf c7
          exact bX10_counts_130 C hn _ _ _ _ hf _ _ _ _ _ (by omega) (by omega) hw (lv_sub hl [0, 1] rfl)
        · have hf := ip hf c7
          obtain ⟨rfl, rfl⟩ := sp hf
          exact r_vret C hw rfl (by omega) (by omega) dX10_counts_129
  · have hf := ie hf c1
    refine lv_aload_n hx hb dX10_counts_65 rfl (lv_at hl 0 rfl) ?_
    obtain ⟨z8, e8, hf⟩ := ob hf
    refine r_gR C hw e8 ck10 rfl (by decide) w974 dX10_counts_66 ?_
    cases z8 with
    | none =>
      have hf := on_n hf
      cases hf
    | some a9 =>
      have hf := on_s hf
      refine W.eq (g2 := F0 m 69 ls [.ref a9]) rfl ?_
      refine lv_iconst (v := (5 : Int32)) hx hb dX10_counts_69 (by decide) ?_
      refine lv_iload_n hx hb dX10_counts_70 rfl (lv_at hl 1 rfl) ?_
      refine lv_imul hx hb dX10_counts_71 ?_
      refine lv_iload hx hb dX10_counts_72 (lv_at hl 2 rfl) ?_
      refine lv_iadd hx hb dX10_counts_74 ?_
      refine lv_aload_n hx hb dX10_counts_75 rfl (lv_at hl 0 rfl) ?_
      obtain ⟨z10, e10, hf⟩ := ob hf
      refine r_gR C hw e10 ck10 rfl (by decide) w968 dX10_counts_76 ?_
      cases z10 with
      | none =>
        have hf := on_n hf
        cases hf
      | some a11 =>
        have hf := on_s hf
        refine W.eq (g2 := F0 m 79 ls [.ref a11, .int (((5 : Int32) * x1) + x4), .ref a9]) rfl ?_
        refine lv_iload_n hx hb dX10_counts_79 rfl (lv_at hl 1 rfl) ?_
        obtain ⟨z12, e12, hf⟩ := ob hf
        refine r_iald C hw e12 dX10_counts_80 ?_
        refine lv_iconst (v := (1 : Int32)) hx hb dX10_counts_81 (by decide) ?_
        refine lv_iadd hx hb dX10_counts_82 ?_
        obtain ⟨h13, e13, hf⟩ := ob hf
        refine r_iast C hw e13 dX10_counts_83 (fun H locs hw => ?_)
        refine lv_aload_n hx hb dX10_counts_84 rfl (lv_at hl 0 rfl) ?_
        obtain ⟨z14, e14, hf⟩ := ob hf
        refine r_gR C hw e14 ck10 rfl (by decide) w975 dX10_counts_85 ?_
        cases z14 with
        | none =>
          have hf := on_n hf
          cases hf
        | some a15 =>
          have hf := on_s hf
          refine W.eq (g2 := F0 m 88 ls [.ref a15]) rfl ?_
          refine lv_iconst (v := (5 : Int32)) hx hb dX10_counts_88 (by decide) ?_
          refine lv_iload_n hx hb dX10_counts_89 rfl (lv_at hl 1 rfl) ?_
          refine lv_imul hx hb dX10_counts_90 ?_
          refine lv_iload hx hb dX10_counts_91 (lv_at hl 2 rfl) ?_
          refine lv_iadd hx hb dX10_counts_93 ?_
          refine lv_iconst (v := (0 : Int32)) hx hb dX10_counts_94 (by decide) ?_
          obtain ⟨h16, e16, hf⟩ := ob hf
          refine r_iast C hw e16 dX10_counts_95 (fun H locs hw => ?_)
          refine lv_iinc (v := (x4 + (1 : Int32))) (lv' := [(4, .int (x4 + (1 : Int32))), (0, .ref x0), (1, .int x1)]) hx hb dX10_counts_96 hl (k := 2) rfl rfl (by decide) rfl (fun ls hl => ?_)
          refine lv_goto (tgt := 59) hx hb dX10_counts_99 (by decide) ?_
          exact hk59 _ _ _ _ _ hf _ _ _ _ _ (by omega) (by omega) hw (lv_sub hl [1, 2, 0] rfl)
set_option maxRecDepth 100000 in
set_option maxHeartbeats 4000000 in
theorem bX10_counts_59 {D : va_G} {cy : Nat → ClassId} {s0 : Nat} {p : Program} {l : Launch} {e : Env} {s : State} {m : MethodId} {args : Array Value} {below : List Frame} {meth : Method} {c : Code} (C : CX D cy s0 p s m args meth c cX10_counts 5 RX10 none) (hn : meth.name = "counts") : ∀ (n : Nat) (x0 : Nat) (x1 : Int32) (x4 : Int32) (h : Hp) (r : Unit × Hp), fX10_counts_59 n x0 x1 x4 h = some r → pX10_counts_59 D cy s0 p l e s m args below meth c r x0 x1 x4 h := by
  intro n
  induction n with
  | zero => intro x0 x1 x4 h r hf; exact absurd hf (fun q => by cases q)
  | succ n ih => exact bX10_counts_59_body C hn ih
set_option maxRecDepth 100000 in
set_option maxHeartbeats 4000000 in
theorem bX10_counts_17_body {D : va_G} {cy : Nat → ClassId} {s0 : Nat} {p : Program} {l : Launch} {e : Env} {s : State} {m : MethodId} {args : Array Value} {below : List Frame} {meth : Method} {c : Code} (C : CX D cy s0 p s m args meth c cX10_counts 5 RX10 none) (hn : meth.name = "counts") {k17 : Nat → Int32 → Int32 → Int32 → Hp → Option (Unit × Hp)} (hk17 : ∀ (x0 : Nat) (x1 : Int32) (x3 : Int32) (x4 : Int32) (h : Hp) (r : Unit × Hp), k17 x0 x1 x3 x4 h = some r → pX10_counts_17 D cy s0 p l e s m args below meth c r x0 x1 x3 x4 h) : ∀ (x0 : Nat) (x1 : Int32) (x3 : Int32) (x4 : Int32) (h : Hp) (r : Unit × Hp), fX10_counts_17_body k17 x0 x1 x3 x4 h = some r → pX10_counts_17 D cy s0 p l e s m args below meth c r x0 x1 x3 x4 h := by
  intro x0 x1 x3 x4 h ⟨rv, rh⟩ hf H locs ls cells slots hc hs hw hl
  unfold fX10_counts_17_body at hf
  have hx := C.1
  have hb := C.2.1
  refine lv_iload hx hb dX10_counts_17 (lv_at hl 3 rfl) ?_
  refine lv_iconst (v := (5 : Int32)) hx hb dX10_counts_19 (by decide) ?_
  refine lv_icmp_ge (tgt := 43) hx hb dX10_counts_20 (by decide) (fun c1 => ?_) (fun c1 => ?_)
  · have hf := ip hf c1
    refine lv_iload_n hx hb dX10_counts_43 rfl (lv_at hl 2 rfl) ?_
    refine lv_iconst (v := (3 : Int32)) hx hb dX10_counts_44 (by decide) ?_
    refine lv_icmp_ge (tgt := 49) hx hb dX10_counts_45 (by decide) (fun c2 => ?_) (fun c2 => ?_)
    · have hf := ip hf c2
      refine lv_aload_n hx hb dX10_counts_49 rfl (lv_at hl 0 rfl) ?_
      obtain ⟨z3, e3, hf⟩ := ob hf
      refine r_gR C hw e3 ck10 rfl (by decide) w971 dX10_counts_50 ?_
      cases z3 with
      | none =>
        have hf := on_n hf
        cases hf
      | some a4 =>
        have hf := on_s hf
        refine W.eq (g2 := F0 m 53 ls [.ref a4]) rfl ?_
        refine lv_iload_n hx hb dX10_counts_53 rfl (lv_at hl 1 rfl) ?_
        refine lv_iconst (v := (2 : Int32)) hx hb dX10_counts_54 (by decide) ?_
        obtain ⟨h5, e5, hf⟩ := ob hf
        refine r_iast C hw e5 dX10_counts_55 (fun H locs hw => ?_)
        refine lv_iconst (v := (0 : Int32)) hx hb dX10_counts_56 (by decide) ?_
        refine lv_istore (lv' := [(4, .int (0 : Int32)), (0, .ref x0), (1, .int x1), (3, .int x3)]) hx hb dX10_counts_57 hl (by decide) rfl (fun ls hl => ?_)
        exact bX10_counts_59 C hn LF _ _ _ _ _ hf _ _ _ _ _ (by omega) (by omega) hw (lv_sub hl [1, 2, 0] rfl)
    · have hf := ie hf c2
      obtain ⟨rfl, rfl⟩ := sp hf
      exact r_vret C hw rfl (by omega) (by omega) dX10_counts_48
  · have hf := ie hf c1
    refine lv_iload_n hx hb dX10_counts_23 rfl (lv_at hl 2 rfl) ?_
    refine lv_aload_n hx hb dX10_counts_24 rfl (lv_at hl 0 rfl) ?_
    obtain ⟨z6, e6, hf⟩ := ob hf
    refine r_gR C hw e6 ck10 rfl (by decide) w972 dX10_counts_25 ?_
    cases z6 with
    | none =>
      have hf := on_n hf
      cases hf
    | some a7 =>
      have hf := on_s hf
      refine W.eq (g2 := F0 m 28 ls [.ref a7, .int x3]) rfl ?_
      refine lv_iload_n hx hb dX10_counts_28 rfl (lv_at hl 1 rfl) ?_
      obtain ⟨z8, e8, hf⟩ := ob hf
      refine r_iald C hw e8 dX10_counts_29 ?_
      refine lv_iload hx hb dX10_counts_30 (lv_at hl 3 rfl) ?_
      refine lv_ishr hx hb dX10_counts_32 ?_
      refine lv_iconst (v := (1 : Int32)) hx hb dX10_counts_33 (by decide) ?_
      refine lv_iand hx hb dX10_counts_34 ?_
      refine lv_iadd hx hb dX10_counts_35 ?_
      refine lv_istore_n (lv' := [(3, .int (x3 + ((z8 >>> (x4 &&& 31)) &&& (1 : Int32)))), (0, .ref x0), (1, .int x1), (4, .int x4)]) hx hb dX10_counts_36 rfl hl (by decide) rfl (fun ls hl => ?_)
      refine lv_iinc (v := (x4 + (1 : Int32))) (lv' := [(4, .int (x4 + (1 : Int32))), (3, .int (x3 + ((z8 >>> (x4 &&& 31)) &&& (1 : Int32)))), (0, .ref x0), (1, .int x1)]) hx hb dX10_counts_37 hl (k := 3) rfl rfl (by decide) rfl (fun ls hl => ?_)
      refine lv_goto (tgt := 17) hx hb dX10_counts_40 (by decide) ?_
      exact hk17 _ _ _ _ _ _ hf _ _ _ _ _ (by omega) (by omega) hw (lv_sub hl [2, 3, 1, 0] rfl)
set_option maxRecDepth 100000 in
set_option maxHeartbeats 4000000 in
theorem bX10_counts_17 {D : va_G} {cy : Nat → ClassId} {s0 : Nat} {p : Program} {l : Launch} {e : Env} {s : State} {m : MethodId} {args : Array Value} {below : List Frame} {meth : Method} {c : Code} (C : CX D cy s0 p s m args meth c cX10_counts 5 RX10 none) (hn : meth.name = "counts") : ∀ (n : Nat) (x0 : Nat) (x1 : Int32) (x3 : Int32) (x4 : Int32) (h : Hp) (r : Unit × Hp), fX10_counts_17 n x0 x1 x3 x4 h = some r → pX10_counts_17 D cy s0 p l e s m args below meth c r x0 x1 x3 x4 h := by
  intro n
  induction n with
  | zero => intro x0 x1 x3 x4 h r hf; exact absurd hf (fun q => by cases q)
  | succ n ih => exact bX10_counts_17_body C hn ih
set_option maxRecDepth 100000 in
set_option maxHeartbeats 4000000 in
theorem bX10_counts {D : va_G} {cy : Nat → ClassId} {s0 : Nat} {p : Program} {l : Launch} {e : Env} {s : State} {m : MethodId} {args : Array Value} {below : List Frame} {meth : Method} {c : Code} (C : CX D cy s0 p s m args meth c cX10_counts 5 RX10 none) (hn : meth.name = "counts") : ∀ (x0 : Nat) (x1 : Int32) (x2 : Int32) (h : Hp) (r : Unit × Hp), fX10_counts x0 x1 x2 h = some r → pX10_counts D cy s0 p l e s m args below meth c r x0 x1 x2 h := by
  intro x0 x1 x2 h ⟨rv, rh⟩ hf H locs ls cells slots hc hs hw hl
  unfold fX10_counts at hf
  have hx := C.1
  have hb := C.2.1
  refine lv_aload_n hx hb dX10_counts_0 rfl (lv_at hl 0 rfl) ?_
  obtain ⟨z1, e1, hf⟩ := ob hf
  refine r_gR C hw e1 ck10 rfl (by decide) w972 dX10_counts_1 ?_
  cases z1 with
  | none =>
    have hf := on_n hf
    cases hf
  | some a2 =>
    have hf := on_s hf
    refine W.eq (g2 := F0 m 4 ls [.ref a2]) rfl ?_
    refine lv_iload_n hx hb dX10_counts_4 rfl (lv_at hl 1 rfl) ?_
    refine lv_dup2_11 hx hb dX10_counts_5 rfl rfl ?_
    obtain ⟨z3, e3, hf⟩ := ob hf
    refine r_iald C hw e3 dX10_counts_6 ?_
    refine lv_iconst (v := (1 : Int32)) hx hb dX10_counts_7 (by decide) ?_
    refine lv_iload_n hx hb dX10_counts_8 rfl (lv_at hl 2 rfl) ?_
    refine lv_ishl hx hb dX10_counts_9 ?_
    refine lv_ior hx hb dX10_counts_10 ?_
    obtain ⟨h4, e4, hf⟩ := ob hf
    refine r_iast C hw e4 dX10_counts_11 (fun H locs hw => ?_)
    refine lv_iconst (v := (0 : Int32)) hx hb dX10_counts_12 (by decide) ?_
    refine lv_istore_n (lv' := [(3, .int (0 : Int32)), (0, .ref x0), (1, .int x1), (2, .int x2)]) hx hb dX10_counts_13 rfl hl (by decide) rfl (fun ls hl => ?_)
    refine lv_iconst (v := (0 : Int32)) hx hb dX10_counts_14 (by decide) ?_
    refine lv_istore (lv' := [(4, .int (0 : Int32)), (3, .int (0 : Int32)), (0, .ref x0), (1, .int x1), (2, .int x2)]) hx hb dX10_counts_15 hl (by decide) rfl (fun ls hl => ?_)
    exact bX10_counts_17 C hn LF _ _ _ _ _ _ hf _ _ _ _ _ (by omega) (by omega) hw (lv_sub hl [2, 3, 1, 0] rfl)
theorem kXX10_counts : MK yX10_counts cX10_counts 5 none 2 := ⟨w1175, w8, by decide +kernel⟩
theorem mX10_counts {D : va_G} {cy : Nat → ClassId} {s0 : Nat} {l : Launch} {x0 : Nat} {x1 : Int32} {x2 : Int32} {h : Hp} {v : Unit} {h1 : Hp} (hf : fX10_counts x0 x1 x2 h = some (v, h1)) : MT D cy s0 l yX10_counts cX10_counts 5 none rX10_counts [.ref x0, .int x1, .int x2] h none h1 := by
  refine MT.of (by decide +kernel) (Nat.le_of_ble_eq_true rfl) ?_
  intro p e s m below meth c H locs ls C hn hw hl
  exact bX10_counts C hn _ _ _ _ _ hf _ _ _ _ _ (Nat.le_of_ble_eq_true rfl) (Nat.le_of_ble_eq_true rfl) hw hl
abbrev rX10_crash : Room := { frames := 1, cells := 0, slots := 0, locals := 22 }
abbrev pX10_crash_35 (D : va_G) (cy : Nat → ClassId) (s0 : Nat) (p : Program) (l : Launch) (e : Env) (s : State) (m : MethodId) (args : Array Value) (below : List Frame) (meth : Method) (c : Code) (r : Unit × Hp) (x0 : Nat) (x1 : Int32) (y0 : Int32) (y1 : Nat) (h : Hp) : Prop := ∀ (H : Heap) (locs : List Loc) (ls : Array Slot) (cells slots : Nat), cells + (0) ≤ 0 → slots + (0) ≤ 0 → WS D cy s0 s h H locs → lv_has ls 2 [(0, .ref x0), (1, .int x1)] → W p l e rX10_crash s m args below meth c H locs cells slots (MQ below (QQ D cy s0 none r.2) args s 0 0 (fun q => s0 ≤ q)) (F0 m 35 ls [.int y0, .ref y1])
abbrev pX10_crash_13 (D : va_G) (cy : Nat → ClassId) (s0 : Nat) (p : Program) (l : Launch) (e : Env) (s : State) (m : MethodId) (args : Array Value) (below : List Frame) (meth : Method) (c : Code) (r : Unit × Hp) (x0 : Nat) (x1 : Int32) (y0 : Int32) (y1 : Nat) (h : Hp) : Prop := ∀ (H : Heap) (locs : List Loc) (ls : Array Slot) (cells slots : Nat), cells + (0) ≤ 0 → slots + (0) ≤ 0 → WS D cy s0 s h H locs → lv_has ls 2 [(0, .ref x0), (1, .int x1)] → W p l e rX10_crash s m args below meth c H locs cells slots (MQ below (QQ D cy s0 none r.2) args s 0 0 (fun q => s0 ≤ q)) (F0 m 13 ls [.int y0, .ref y1])
abbrev pX10_crash (D : va_G) (cy : Nat → ClassId) (s0 : Nat) (p : Program) (l : Launch) (e : Env) (s : State) (m : MethodId) (args : Array Value) (below : List Frame) (meth : Method) (c : Code) (r : Unit × Hp) (x0 : Nat) (x1 : Int32) (h : Hp) : Prop := ∀ (H : Heap) (locs : List Loc) (ls : Array Slot) (cells slots : Nat), cells + (0) ≤ 0 → slots + (0) ≤ 0 → WS D cy s0 s h H locs → lv_has ls 2 [(0, .ref x0), (1, .int x1)] → W p l e rX10_crash s m args below meth c H locs cells slots (MQ below (QQ D cy s0 none r.2) args s 0 0 (fun q => s0 ≤ q)) (F0 m 0 ls [])
set_option maxRecDepth 100000 in
set_option maxHeartbeats 4000000 in
theorem bX10_crash_35 {D : va_G} {cy : Nat → ClassId} {s0 : Nat} {p : Program} {l : Launch} {e : Env} {s : State} {m : MethodId} {args : Array Value} {below : List Frame} {meth : Method} {c : Code} (C : CX D cy s0 p s m args meth c cX10_crash 2 RX10 none) (hn : meth.name = "crash") : ∀ (x0 : Nat) (x1 : Int32) (y0 : Int32) (y1 : Nat) (h : Hp) (r : Unit × Hp), fX10_crash_35 x0 x1 y0 y1 h = some r → pX10_crash_35 D cy s0 p l e s m args below meth c r x0 x1 y0 y1 h := by
  intro x0 x1 y0 y1 h ⟨rv, rh⟩ hf H locs ls cells slots hc hs hw hl
  unfold fX10_crash_35 at hf
  have hx := C.1
  have hb := C.2.1
  refine lv_iconst (v := (2 : Int32)) hx hb dX10_crash_35 (by decide) ?_
  obtain ⟨kb1, hf⟩ := ig hf
  obtain ⟨z1, h1, e1, hf⟩ := ob2 hf
  refine r_callV C hw (mX10_bad e1) kXX10_bad ck10 rfl kb1 w1132 w1134 v35 ⟨Nat.le_of_ble_eq_true rfl, Nat.le_of_ble_eq_true rfl⟩ rfl hl.1 (rest := []) rfl (Nat.le_of_ble_eq_true rfl) dX10_crash_36 (mc := 0) (ms := 0) rfl rfl ⟨by show _ + 0 ≤ 0; omega, by show _ + 0 ≤ 0; omega⟩ (fun H locs hw => ?_)
  refine W.eq (g2 := F0 m 39 ls [.int z1]) rfl ?_
  refine lv_if_ne (tgt := 47) hx hb dX10_crash_39 (by decide) (fun c2 => ?_) (fun c2 => ?_)
  · have hf := ie hf c2
    obtain ⟨rfl, rfl⟩ := sp hf
    exact r_vret C hw rfl (by omega) (by omega) dX10_crash_47
  · have hf := ip hf c2
    refine lv_aload_n hx hb dX10_crash_42 rfl (lv_at hl 0 rfl) ?_
    refine lv_iload_n hx hb dX10_crash_43 rfl (lv_at hl 1 rfl) ?_
    obtain ⟨kb3, hf⟩ := ig hf
    obtain ⟨z3, h3, e3, hf⟩ := ob2 hf
    refine r_callV C hw (mX10_down e3) kXX10_down ck10 rfl kb3 w1140 w1142 v37 ⟨Nat.le_of_ble_eq_true rfl, Nat.le_of_ble_eq_true rfl⟩ rfl hl.1 (rest := []) rfl (Nat.le_of_ble_eq_true rfl) dX10_crash_44 (mc := 0) (ms := 0) rfl rfl ⟨by show _ + 0 ≤ 0; omega, by show _ + 0 ≤ 0; omega⟩ (fun H locs hw => ?_)
    refine W.eq (g2 := F0 m 47 ls []) rfl ?_
    obtain ⟨rfl, rfl⟩ := sp hf
    exact r_vret C hw rfl (by omega) (by omega) dX10_crash_47
set_option maxRecDepth 100000 in
set_option maxHeartbeats 4000000 in
theorem bX10_crash_13 {D : va_G} {cy : Nat → ClassId} {s0 : Nat} {p : Program} {l : Launch} {e : Env} {s : State} {m : MethodId} {args : Array Value} {below : List Frame} {meth : Method} {c : Code} (C : CX D cy s0 p s m args meth c cX10_crash 2 RX10 none) (hn : meth.name = "crash") : ∀ (x0 : Nat) (x1 : Int32) (y0 : Int32) (y1 : Nat) (h : Hp) (r : Unit × Hp), fX10_crash_13 x0 x1 y0 y1 h = some r → pX10_crash_13 D cy s0 p l e s m args below meth c r x0 x1 y0 y1 h := by
  intro x0 x1 y0 y1 h ⟨rv, rh⟩ hf H locs ls cells slots hc hs hw hl
  unfold fX10_crash_13 at hf
  have hx := C.1
  have hb := C.2.1
  refine lv_iconst (v := (1 : Int32)) hx hb dX10_crash_13 (by decide) ?_
  obtain ⟨kb1, hf⟩ := ig hf
  obtain ⟨z1, h1, e1, hf⟩ := ob2 hf
  refine r_callV C hw (mX10_bad e1) kXX10_bad ck10 rfl kb1 w1132 w1134 v35 ⟨Nat.le_of_ble_eq_true rfl, Nat.le_of_ble_eq_true rfl⟩ rfl hl.1 (rest := []) rfl (Nat.le_of_ble_eq_true rfl) dX10_crash_14 (mc := 0) (ms := 0) rfl rfl ⟨by show _ + 0 ≤ 0; omega, by show _ + 0 ≤ 0; omega⟩ (fun H locs hw => ?_)
  refine W.eq (g2 := F0 m 17 ls [.int z1]) rfl ?_
  refine lv_if_ne (tgt := 47) hx hb dX10_crash_17 (by decide) (fun c2 => ?_) (fun c2 => ?_)
  · have hf := ie hf c2
    obtain ⟨rfl, rfl⟩ := sp hf
    exact r_vret C hw rfl (by omega) (by omega) dX10_crash_47
  · have hf := ip hf c2
    refine lv_aload_n hx hb dX10_crash_20 rfl (lv_at hl 0 rfl) ?_
    refine lv_aload_n hx hb dX10_crash_21 rfl (lv_at hl 0 rfl) ?_
    obtain ⟨z3, e3, hf⟩ := ob hf
    refine r_gR C hw e3 ck10 rfl (by decide) w964 dX10_crash_22 ?_
    cases z3 with
    | none =>
      have hf := on_n hf
      cases hf
    | some a4 =>
      have hf := on_s hf
      refine W.eq (g2 := F0 m 25 ls [.ref a4, .ref x0]) rfl ?_
      refine lv_iload_n hx hb dX10_crash_25 rfl (lv_at hl 1 rfl) ?_
      obtain ⟨z5, e5, hf⟩ := ob hf
      refine r_zald C hw e5 dX10_crash_26 ?_
      refine lv_if_ne (tgt := 34) hx hb dX10_crash_27 (by decide) (fun c6 => ?_) (fun c6 => ?_)
      · have hf := ie hf c6
        refine lv_iconst (v := (0 : Int32)) hx hb dX10_crash_34 (by decide) ?_
        exact bX10_crash_35 C hn _ _ _ _ _ _ hf _ _ _ _ _ (by omega) (by omega) hw (lv_sub hl [0, 1] rfl)
      · have hf := ip hf c6
        refine lv_iconst (v := (1 : Int32)) hx hb dX10_crash_30 (by decide) ?_
        refine lv_goto (tgt := 35) hx hb dX10_crash_31 (by decide) ?_
        exact bX10_crash_35 C hn _ _ _ _ _ _ hf _ _ _ _ _ (by omega) (by omega) hw (lv_sub hl [0, 1] rfl)
set_option maxRecDepth 100000 in
set_option maxHeartbeats 4000000 in
theorem bX10_crash {D : va_G} {cy : Nat → ClassId} {s0 : Nat} {p : Program} {l : Launch} {e : Env} {s : State} {m : MethodId} {args : Array Value} {below : List Frame} {meth : Method} {c : Code} (C : CX D cy s0 p s m args meth c cX10_crash 2 RX10 none) (hn : meth.name = "crash") : ∀ (x0 : Nat) (x1 : Int32) (h : Hp) (r : Unit × Hp), fX10_crash x0 x1 h = some r → pX10_crash D cy s0 p l e s m args below meth c r x0 x1 h := by
  intro x0 x1 h ⟨rv, rh⟩ hf H locs ls cells slots hc hs hw hl
  unfold fX10_crash at hf
  have hx := C.1
  have hb := C.2.1
  refine lv_aload_n hx hb dX10_crash_0 rfl (lv_at hl 0 rfl) ?_
  refine lv_iload_n hx hb dX10_crash_1 rfl (lv_at hl 1 rfl) ?_
  obtain ⟨z1, h1, e1, hf⟩ := ob2 hf
  refine r_callS C hw (mX10_isNode e1) kXX10_isNode w1129 w1130 ⟨Nat.le_of_ble_eq_true rfl, Nat.le_of_ble_eq_true rfl⟩ rfl hl.1 (rest := [.ref x0]) rfl (Nat.le_of_ble_eq_true rfl) dX10_crash_2 (mc := 0) (ms := 0) rfl rfl ⟨by show _ + 0 ≤ 0; omega, by show _ + 0 ≤ 0; omega⟩ (fun H locs hw => ?_)
  refine W.eq (g2 := F0 m 5 ls [.int z1, .ref x0]) rfl ?_
  refine lv_if_ne (tgt := 12) hx hb dX10_crash_5 (by decide) (fun c2 => ?_) (fun c2 => ?_)
  · have hf := ie hf c2
    refine lv_iconst (v := (0 : Int32)) hx hb dX10_crash_12 (by decide) ?_
    exact bX10_crash_13 C hn _ _ _ _ _ _ hf _ _ _ _ _ (by omega) (by omega) hw (lv_sub hl [0, 1] rfl)
  · have hf := ip hf c2
    refine lv_iconst (v := (1 : Int32)) hx hb dX10_crash_8 (by decide) ?_
    refine lv_goto (tgt := 13) hx hb dX10_crash_9 (by decide) ?_
    exact bX10_crash_13 C hn _ _ _ _ _ _ hf _ _ _ _ _ (by omega) (by omega) hw (lv_sub hl [0, 1] rfl)
theorem kXX10_crash : MK yX10_crash cX10_crash 2 none 1 := ⟨w1232, w8, by decide +kernel⟩
theorem mX10_crash {D : va_G} {cy : Nat → ClassId} {s0 : Nat} {l : Launch} {x0 : Nat} {x1 : Int32} {h : Hp} {v : Unit} {h1 : Hp} (hf : fX10_crash x0 x1 h = some (v, h1)) : MT D cy s0 l yX10_crash cX10_crash 2 none rX10_crash [.ref x0, .int x1] h none h1 := by
  refine MT.of (by decide +kernel) (Nat.le_of_ble_eq_true rfl) ?_
  intro p e s m below meth c H locs ls C hn hw hl
  exact bX10_crash C hn _ _ _ _ hf _ _ _ _ _ (Nat.le_of_ble_eq_true rfl) (Nat.le_of_ble_eq_true rfl) hw hl
abbrev rX10_installs : Room := { frames := 2, cells := 0, slots := 0, locals := 48 }
abbrev pX10_installs_176 (D : va_G) (cy : Nat → ClassId) (s0 : Nat) (p : Program) (l : Launch) (e : Env) (s : State) (m : MethodId) (args : Array Value) (below : List Frame) (meth : Method) (c : Code) (r : Unit × Hp) (x0 : Nat) (x1 : Int32) (x2 : Int32) (x3 : Int32) (h : Hp) : Prop := ∀ (H : Heap) (locs : List Loc) (ls : Array Slot) (cells slots : Nat), cells + (0) ≤ 0 → slots + (0) ≤ 0 → WS D cy s0 s h H locs → lv_has ls 6 [(0, .ref x0), (1, .int x1), (2, .int x2), (3, .int x3)] → W p l e rX10_installs s m args below meth c H locs cells slots (MQ below (QQ D cy s0 none r.2) args s 0 0 (fun q => s0 ≤ q)) (F0 m 176 ls [])
abbrev pX10_installs_90 (D : va_G) (cy : Nat → ClassId) (s0 : Nat) (p : Program) (l : Launch) (e : Env) (s : State) (m : MethodId) (args : Array Value) (below : List Frame) (meth : Method) (c : Code) (r : Unit × Hp) (x0 : Nat) (x1 : Int32) (x2 : Int32) (x3 : Int32) (x4 : Int32) (x5 : Int32) (h : Hp) : Prop := ∀ (H : Heap) (locs : List Loc) (ls : Array Slot) (cells slots : Nat), cells + (0) ≤ 0 → slots + (0) ≤ 0 → WS D cy s0 s h H locs → lv_has ls 6 [(0, .ref x0), (1, .int x1), (2, .int x2), (3, .int x3), (4, .int x4), (5, .int x5)] → W p l e rX10_installs s m args below meth c H locs cells slots (MQ below (QQ D cy s0 none r.2) args s 0 0 (fun q => s0 ≤ q)) (F0 m 90 ls [])
abbrev pX10_installs_85 (D : va_G) (cy : Nat → ClassId) (s0 : Nat) (p : Program) (l : Launch) (e : Env) (s : State) (m : MethodId) (args : Array Value) (below : List Frame) (meth : Method) (c : Code) (r : Unit × Hp) (x0 : Nat) (x1 : Int32) (x2 : Int32) (x3 : Int32) (y0 : Int32) (h : Hp) : Prop := ∀ (H : Heap) (locs : List Loc) (ls : Array Slot) (cells slots : Nat), cells + (0) ≤ 0 → slots + (0) ≤ 0 → WS D cy s0 s h H locs → lv_has ls 6 [(0, .ref x0), (1, .int x1), (2, .int x2), (3, .int x3)] → W p l e rX10_installs s m args below meth c H locs cells slots (MQ below (QQ D cy s0 none r.2) args s 0 0 (fun q => s0 ≤ q)) (F0 m 85 ls [.int y0])
abbrev pX10_installs_84 (D : va_G) (cy : Nat → ClassId) (s0 : Nat) (p : Program) (l : Launch) (e : Env) (s : State) (m : MethodId) (args : Array Value) (below : List Frame) (meth : Method) (c : Code) (r : Unit × Hp) (x0 : Nat) (x1 : Int32) (x2 : Int32) (x3 : Int32) (h : Hp) : Prop := ∀ (H : Heap) (locs : List Loc) (ls : Array Slot) (cells slots : Nat), cells + (0) ≤ 0 → slots + (0) ≤ 0 → WS D cy s0 s h H locs → lv_has ls 6 [(0, .ref x0), (1, .int x1), (2, .int x2), (3, .int x3)] → W p l e rX10_installs s m args below meth c H locs cells slots (MQ below (QQ D cy s0 none r.2) args s 0 0 (fun q => s0 ≤ q)) (F0 m 84 ls [])
abbrev pX10_installs (D : va_G) (cy : Nat → ClassId) (s0 : Nat) (p : Program) (l : Launch) (e : Env) (s : State) (m : MethodId) (args : Array Value) (below : List Frame) (meth : Method) (c : Code) (r : Unit × Hp) (x0 : Nat) (x1 : Int32) (x2 : Int32) (x3 : Int32) (h : Hp) : Prop := ∀ (H : Heap) (locs : List Loc) (ls : Array Slot) (cells slots : Nat), cells + (0) ≤ 0 → slots + (0) ≤ 0 → WS D cy s0 s h H locs → lv_has ls 6 [(0, .ref x0), (1, .int x1), (2, .int x2), (3, .int x3)] → W p l e rX10_installs s m args below meth c H locs cells slots (MQ below (QQ D cy s0 none r.2) args s 0 0 (fun q => s0 ≤ q)) (F0 m 0 ls [])
set_option maxRecDepth 100000 in
set_option maxHeartbeats 4000000 in
theorem bX10_installs_176 {D : va_G} {cy : Nat → ClassId} {s0 : Nat} {p : Program} {l : Launch} {e : Env} {s : State} {m : MethodId} {args : Array Value} {below : List Frame} {meth : Method} {c : Code} (C : CX D cy s0 p s m args meth c cX10_installs 6 RX10 none) (hn : meth.name = "installs") : ∀ (x0 : Nat) (x1 : Int32) (x2 : Int32) (x3 : Int32) (h : Hp) (r : Unit × Hp), fX10_installs_176 x0 x1 x2 x3 h = some r → pX10_installs_176 D cy s0 p l e s m args below meth c r x0 x1 x2 x3 h := by
  intro x0 x1 x2 x3 h ⟨rv, rh⟩ hf H locs ls cells slots hc hs hw hl
  unfold fX10_installs_176 at hf
  have hx := C.1
  have hb := C.2.1
  refine lv_aload_n hx hb dX10_installs_176 rfl (lv_at hl 0 rfl) ?_
  obtain ⟨z1, e1, hf⟩ := ob hf
  refine r_gR C hw e1 ck10 rfl (by decide) w969 dX10_installs_177 ?_
  cases z1 with
  | none =>
    have hf := on_n hf
    cases hf
  | some a2 =>
    have hf := on_s hf
    refine W.eq (g2 := F0 m 180 ls [.ref a2]) rfl ?_
    refine lv_iload_n hx hb dX10_installs_180 rfl (lv_at hl 2 rfl) ?_
    refine lv_aload_n hx hb dX10_installs_181 rfl (lv_at hl 0 rfl) ?_
    obtain ⟨z3, e3, hf⟩ := ob hf
    refine r_gR C hw e3 ck10 rfl (by decide) w982 dX10_installs_182 ?_
    cases z3 with
    | none =>
      have hf := on_n hf
      cases hf
    | some a4 =>
      have hf := on_s hf
      refine W.eq (g2 := F0 m 185 ls [.ref a4, .int x2, .ref a2]) rfl ?_
      refine lv_iload_n hx hb dX10_installs_185 rfl (lv_at hl 1 rfl) ?_
      obtain ⟨z5, e5, hf⟩ := ob hf
      refine r_iald C hw e5 dX10_installs_186 ?_
      obtain ⟨h6, e6, hf⟩ := ob hf
      refine r_iast C hw e6 dX10_installs_187 (fun H locs hw => ?_)
      refine lv_aload_n hx hb dX10_installs_188 rfl (lv_at hl 0 rfl) ?_
      obtain ⟨z7, e7, hf⟩ := ob hf
      refine r_gR C hw e7 ck10 rfl (by decide) w970 dX10_installs_189 ?_
      cases z7 with
      | none =>
        have hf := on_n hf
        cases hf
      | some a8 =>
        have hf := on_s hf
        refine W.eq (g2 := F0 m 192 ls [.ref a8]) rfl ?_
        refine lv_iload_n hx hb dX10_installs_192 rfl (lv_at hl 2 rfl) ?_
        refine lv_aload_n hx hb dX10_installs_193 rfl (lv_at hl 0 rfl) ?_
        obtain ⟨z9, e9, hf⟩ := ob hf
        refine r_gR C hw e9 ck10 rfl (by decide) w982 dX10_installs_194 ?_
        cases z9 with
        | none =>
          have hf := on_n hf
          cases hf
        | some a10 =>
          have hf := on_s hf
          refine W.eq (g2 := F0 m 197 ls [.ref a10, .int x2, .ref a8]) rfl ?_
          refine lv_iload_n hx hb dX10_installs_197 rfl (lv_at hl 1 rfl) ?_
          obtain ⟨z11, e11, hf⟩ := ob hf
          refine r_iald C hw e11 dX10_installs_198 ?_
          obtain ⟨h12, e12, hf⟩ := ob hf
          refine r_iast C hw e12 dX10_installs_199 (fun H locs hw => ?_)
          refine lv_aload_n hx hb dX10_installs_200 rfl (lv_at hl 0 rfl) ?_
          obtain ⟨z13, e13, hf⟩ := ob hf
          refine r_gR C hw e13 ck10 rfl (by decide) w977 dX10_installs_201 ?_
          cases z13 with
          | none =>
            have hf := on_n hf
            cases hf
          | some a14 =>
            have hf := on_s hf
            refine W.eq (g2 := F0 m 204 ls [.ref a14]) rfl ?_
            refine lv_iload_n hx hb dX10_installs_204 rfl (lv_at hl 2 rfl) ?_
            refine lv_dup2_11 hx hb dX10_installs_205 rfl rfl ?_
            obtain ⟨z15, e15, hf⟩ := ob hf
            refine r_iald C hw e15 dX10_installs_206 ?_
            refine lv_iconst (v := (1 : Int32)) hx hb dX10_installs_207 (by decide) ?_
            refine lv_iadd hx hb dX10_installs_208 ?_
            obtain ⟨h16, e16, hf⟩ := ob hf
            refine r_iast C hw e16 dX10_installs_209 (fun H locs hw => ?_)
            refine lv_aload_n hx hb dX10_installs_210 rfl (lv_at hl 0 rfl) ?_
            refine lv_iconst (v := (3 : Int32)) hx hb dX10_installs_211 (by decide) ?_
            refine lv_iload_n hx hb dX10_installs_212 rfl (lv_at hl 2 rfl) ?_
            refine lv_iload_n hx hb dX10_installs_213 rfl (lv_at hl 3 rfl) ?_
            refine lv_aload_n hx hb dX10_installs_214 rfl (lv_at hl 0 rfl) ?_
            obtain ⟨z17, e17, hf⟩ := ob hf
            refine r_gR C hw e17 ck10 rfl (by decide) w982 dX10_installs_215 ?_
            cases z17 with
            | none =>
              have hf := on_n hf
              cases hf
            | some a18 =>
              have hf := on_s hf
              refine W.eq (g2 := F0 m 218 ls [.ref a18, .int x3, .int x2, .int (3 : Int32), .ref x0]) rfl ?_
              refine lv_iload_n hx hb dX10_installs_218 rfl (lv_at hl 1 rfl) ?_
              obtain ⟨z19, e19, hf⟩ := ob hf
              refine r_iald C hw e19 dX10_installs_219 ?_
              obtain ⟨kb20, hf⟩ := ig hf
              obtain ⟨z20, h20, e20, hf⟩ := ob2 hf
              refine r_callV C hw (mX10_answer e20) kXX10_answer ck10 rfl kb20 w1164 w1166 v42 ⟨Nat.le_of_ble_eq_true rfl, Nat.le_of_ble_eq_true rfl⟩ rfl hl.1 (rest := []) rfl (Nat.le_of_ble_eq_true rfl) dX10_installs_220 (mc := 0) (ms := 0) rfl rfl ⟨by show _ + 0 ≤ 0; omega, by show _ + 0 ≤ 0; omega⟩ (fun H locs hw => ?_)
              refine W.eq (g2 := F0 m 223 ls []) rfl ?_
              obtain ⟨rfl, rfl⟩ := sp hf
              exact r_vret C hw rfl (by omega) (by omega) dX10_installs_223
set_option maxRecDepth 100000 in
set_option maxHeartbeats 4000000 in
theorem bX10_installs_90_body {D : va_G} {cy : Nat → ClassId} {s0 : Nat} {p : Program} {l : Launch} {e : Env} {s : State} {m : MethodId} {args : Array Value} {below : List Frame} {meth : Method} {c : Code} (C : CX D cy s0 p s m args meth c cX10_installs 6 RX10 none) (hn : meth.name = "installs") {k90 : Nat → Int32 → Int32 → Int32 → Int32 → Int32 → Hp → Option (Unit × Hp)} (hk90 : ∀ (x0 : Nat) (x1 : Int32) (x2 : Int32) (x3 : Int32) (x4 : Int32) (x5 : Int32) (h : Hp) (r : Unit × Hp), k90 x0 x1 x2 x3 x4 x5 h = some r → pX10_installs_90 D cy s0 p l e s m args below meth c r x0 x1 x2 x3 x4 x5 h) : ∀ (x0 : Nat) (x1 : Int32) (x2 : Int32) (x3 : Int32) (x4 : Int32) (x5 : Int32) (h : Hp) (r : Unit × Hp), fX10_installs_90_body k90 x0 x1 x2 x3 x4 x5 h = some r → pX10_installs_90 D cy s0 p l e s m args below meth c r x0 x1 x2 x3 x4 x5 h := by
  intro x0 x1 x2 x3 x4 x5 h ⟨rv, rh⟩ hf H locs ls cells slots hc hs hw hl
  unfold fX10_installs_90_body at hf
  have hx := C.1
  have hb := C.2.1
  refine lv_iload hx hb dX10_installs_90 (lv_at hl 5 rfl) ?_
  refine lv_aload_n hx hb dX10_installs_92 rfl (lv_at hl 0 rfl) ?_
  obtain ⟨z1, e1, hf⟩ := ob hf
  refine r_gR C hw e1 ck10 rfl (by decide) w982 dX10_installs_93 ?_
  cases z1 with
  | none =>
    have hf := on_n hf
    cases hf
  | some a2 =>
    have hf := on_s hf
    refine W.eq (g2 := F0 m 96 ls [.ref a2, .int x5]) rfl ?_
    refine lv_iload_n hx hb dX10_installs_96 rfl (lv_at hl 1 rfl) ?_
    obtain ⟨z3, e3, hf⟩ := ob hf
    refine r_iald C hw e3 dX10_installs_97 ?_
    refine lv_iconst (v := (1 : Int32)) hx hb dX10_installs_98 (by decide) ?_
    refine lv_iadd hx hb dX10_installs_99 ?_
    refine lv_bipush (v := (8 : Int32)) hx hb dX10_installs_100 (by decide) ?_
    refine lv_imul hx hb dX10_installs_102 ?_
    refine lv_icmp_ge (tgt := 147) hx hb dX10_installs_103 (by decide) (fun c4 => ?_) (fun c4 => ?_)
    · have hf := ip hf c4
      refine lv_aload_n hx hb dX10_installs_147 rfl (lv_at hl 0 rfl) ?_
      obtain ⟨z5, e5, hf⟩ := ob hf
      refine r_gR C hw e5 ck10 rfl (by decide) w967 dX10_installs_148 ?_
      cases z5 with
      | none =>
        have hf := on_n hf
        cases hf
      | some a6 =>
        have hf := on_s hf
        refine W.eq (g2 := F0 m 151 ls [.ref a6]) rfl ?_
        refine lv_iload_n hx hb dX10_installs_151 rfl (lv_at hl 2 rfl) ?_
        refine lv_aload_n hx hb dX10_installs_152 rfl (lv_at hl 0 rfl) ?_
        obtain ⟨z7, e7, hf⟩ := ob hf
        refine r_gR C hw e7 ck10 rfl (by decide) w982 dX10_installs_153 ?_
        cases z7 with
        | none =>
          have hf := on_n hf
          cases hf
        | some a8 =>
          have hf := on_s hf
          refine W.eq (g2 := F0 m 156 ls [.ref a8, .int x2, .ref a6]) rfl ?_
          refine lv_iload_n hx hb dX10_installs_156 rfl (lv_at hl 1 rfl) ?_
          obtain ⟨z9, e9, hf⟩ := ob hf
          refine r_iald C hw e9 dX10_installs_157 ?_
          obtain ⟨h10, e10, hf⟩ := ob hf
          refine r_iast C hw e10 dX10_installs_158 (fun H locs hw => ?_)
          refine lv_iload hx hb dX10_installs_159 (lv_at hl 4 rfl) ?_
          refine lv_if_ne (tgt := 176) hx hb dX10_installs_161 (by decide) (fun c11 => ?_) (fun c11 => ?_)
          · have hf := ie hf c11
            exact bX10_installs_176 C hn _ _ _ _ _ _ hf _ _ _ _ _ (by omega) (by omega) hw (lv_sub hl [0, 1, 2, 3] rfl)
          · have hf := ip hf c11
            refine lv_aload_n hx hb dX10_installs_164 rfl (lv_at hl 0 rfl) ?_
            obtain ⟨z12, e12, hf⟩ := ob hf
            refine r_gR C hw e12 ck10 rfl (by decide) w968 dX10_installs_165 ?_
            cases z12 with
            | none =>
              have hf := on_n hf
              cases hf
            | some a13 =>
              have hf := on_s hf
              refine W.eq (g2 := F0 m 168 ls [.ref a13]) rfl ?_
              refine lv_iload_n hx hb dX10_installs_168 rfl (lv_at hl 2 rfl) ?_
              refine lv_aload_n hx hb dX10_installs_169 rfl (lv_at hl 0 rfl) ?_
              obtain ⟨z14, e14, hf⟩ := ob hf
              refine r_gR C hw e14 ck10 rfl (by decide) w982 dX10_installs_170 ?_
              cases z14 with
              | none =>
                have hf := on_n hf
                cases hf
              | some a15 =>
                have hf := on_s hf
                refine W.eq (g2 := F0 m 173 ls [.ref a15, .int x2, .ref a13]) rfl ?_
                refine lv_iload_n hx hb dX10_installs_173 rfl (lv_at hl 1 rfl) ?_
                obtain ⟨z16, e16, hf⟩ := ob hf
                refine r_iald C hw e16 dX10_installs_174 ?_
                obtain ⟨h17, e17, hf⟩ := ob hf
                refine r_iast C hw e17 dX10_installs_175 (fun H locs hw => ?_)
                exact bX10_installs_176 C hn _ _ _ _ _ _ hf _ _ _ _ _ (by omega) (by omega) hw (lv_sub hl [0, 1, 2, 3] rfl)
    · have hf := ie hf c4
      refine lv_aload_n hx hb dX10_installs_106 rfl (lv_at hl 0 rfl) ?_
      obtain ⟨z24, e24, hf⟩ := ob hf
      refine r_gR C hw e24 ck10 rfl (by decide) w976 dX10_installs_107 ?_
      cases z24 with
      | none =>
        have hf := on_n hf
        cases hf
      | some a25 =>
        have hf := on_s hf
        refine W.eq (g2 := F0 m 110 ls [.ref a25]) rfl ?_
        refine lv_aload_n hx hb dX10_installs_110 rfl (lv_at hl 0 rfl) ?_
        refine lv_iload_n hx hb dX10_installs_111 rfl (lv_at hl 2 rfl) ?_
        refine lv_iconst (v := (0 : Int32)) hx hb dX10_installs_112 (by decide) ?_
        obtain ⟨kb26, hf⟩ := ig hf
        obtain ⟨z26, h26, e26, hf⟩ := ob2 hf
        refine r_callV C hw (mX10_at e26) kXX10_at ck10 rfl kb26 w1152 w1154 v40 ⟨Nat.le_of_ble_eq_true rfl, Nat.le_of_ble_eq_true rfl⟩ rfl hl.1 (rest := [.ref a25]) rfl (Nat.le_of_ble_eq_true rfl) dX10_installs_113 (mc := 0) (ms := 0) rfl rfl ⟨by show _ + 0 ≤ 0; omega, by show _ + 0 ≤ 0; omega⟩ (fun H locs hw => ?_)
        refine W.eq (g2 := F0 m 116 ls [.int z26, .ref a25]) rfl ?_
        refine lv_iload hx hb dX10_installs_116 (lv_at hl 5 rfl) ?_
        refine lv_iadd hx hb dX10_installs_118 ?_
        refine lv_aload_n hx hb dX10_installs_119 rfl (lv_at hl 0 rfl) ?_
        obtain ⟨z27, e27, hf⟩ := ob hf
        refine r_gR C hw e27 ck10 rfl (by decide) w988 dX10_installs_120 ?_
        cases z27 with
        | none =>
          have hf := on_n hf
          cases hf
        | some a28 =>
          have hf := on_s hf
          refine W.eq (g2 := F0 m 123 ls [.ref a28, .int (z26 + x5), .ref a25]) rfl ?_
          refine lv_aload_n hx hb dX10_installs_123 rfl (lv_at hl 0 rfl) ?_
          obtain ⟨z29, e29, hf⟩ := ob hf
          refine r_gR C hw e29 ck10 rfl (by decide) w989 dX10_installs_124 ?_
          cases z29 with
          | none =>
            have hf := on_n hf
            cases hf
          | some a30 =>
            have hf := on_s hf
            refine W.eq (g2 := F0 m 127 ls [.ref a30, .ref a28, .int (z26 + x5), .ref a25]) rfl ?_
            refine lv_iload_n hx hb dX10_installs_127 rfl (lv_at hl 1 rfl) ?_
            obtain ⟨z31, e31, hf⟩ := ob hf
            refine r_iald C hw e31 dX10_installs_128 ?_
            refine lv_sipush (v := (1201 : Int32)) hx hb dX10_installs_129 (by decide) ?_
            refine lv_imul hx hb dX10_installs_132 ?_
            refine lv_bipush (v := (8 : Int32)) hx hb dX10_installs_133 (by decide) ?_
            refine lv_imul hx hb dX10_installs_135 ?_
            refine lv_iload hx hb dX10_installs_136 (lv_at hl 5 rfl) ?_
            refine lv_iadd hx hb dX10_installs_138 ?_
            obtain ⟨z32, e32, hf⟩ := ob hf
            refine r_iald C hw e32 dX10_installs_139 ?_
            obtain ⟨h33, e33, hf⟩ := ob hf
            refine r_iast C hw e33 dX10_installs_140 (fun H locs hw => ?_)
            refine lv_iinc (v := (x5 + (1 : Int32))) (lv' := [(5, .int (x5 + (1 : Int32))), (0, .ref x0), (1, .int x1), (2, .int x2), (3, .int x3), (4, .int x4)]) hx hb dX10_installs_141 hl (k := 5) rfl rfl (by decide) rfl (fun ls hl => ?_)
            refine lv_goto (tgt := 90) hx hb dX10_installs_144 (by decide) ?_
            exact hk90 _ _ _ _ _ _ _ _ hf _ _ _ _ _ (by omega) (by omega) hw (lv_sub hl [1, 2, 3, 4, 5, 0] rfl)
set_option maxRecDepth 100000 in
set_option maxHeartbeats 4000000 in
theorem bX10_installs_90 {D : va_G} {cy : Nat → ClassId} {s0 : Nat} {p : Program} {l : Launch} {e : Env} {s : State} {m : MethodId} {args : Array Value} {below : List Frame} {meth : Method} {c : Code} (C : CX D cy s0 p s m args meth c cX10_installs 6 RX10 none) (hn : meth.name = "installs") : ∀ (n : Nat) (x0 : Nat) (x1 : Int32) (x2 : Int32) (x3 : Int32) (x4 : Int32) (x5 : Int32) (h : Hp) (r : Unit × Hp), fX10_installs_90 n x0 x1 x2 x3 x4 x5 h = some r → pX10_installs_90 D cy s0 p l e s m args below meth c r x0 x1 x2 x3 x4 x5 h := by
  intro n
  induction n with
  | zero => intro x0 x1 x2 x3 x4 x5 h r hf; exact absurd hf (fun q => by cases q)
  | succ n ih => exact bX10_installs_90_body C hn ih
set_option maxRecDepth 100000 in
set_option maxHeartbeats 4000000 in
theorem bX10_installs_85 {D : va_G} {cy : Nat → ClassId} {s0 : Nat} {p : Program} {l : Launch} {e : Env} {s : State} {m : MethodId} {args : Array Value} {below : List Frame} {meth : Method} {c : Code} (C : CX D cy s0 p s m args meth c cX10_installs 6 RX10 none) (hn : meth.name = "installs") : ∀ (x0 : Nat) (x1 : Int32) (x2 : Int32) (x3 : Int32) (y0 : Int32) (h : Hp) (r : Unit × Hp), fX10_installs_85 x0 x1 x2 x3 y0 h = some r → pX10_installs_85 D cy s0 p l e s m args below meth c r x0 x1 x2 x3 y0 h := by
  intro x0 x1 x2 x3 y0 h ⟨rv, rh⟩ hf H locs ls cells slots hc hs hw hl
  unfold fX10_installs_85 at hf
  have hx := C.1
  have hb := C.2.1
  refine lv_istore (lv' := [(4, .int y0), (0, .ref x0), (1, .int x1), (2, .int x2), (3, .int x3)]) hx hb dX10_installs_85 hl (by decide) rfl (fun ls hl => ?_)
  refine lv_iconst (v := (0 : Int32)) hx hb dX10_installs_87 (by decide) ?_
  refine lv_istore (lv' := [(5, .int (0 : Int32)), (4, .int y0), (0, .ref x0), (1, .int x1), (2, .int x2), (3, .int x3)]) hx hb dX10_installs_88 hl (by decide) rfl (fun ls hl => ?_)
  exact bX10_installs_90 C hn LF _ _ _ _ _ _ _ _ hf _ _ _ _ _ (by omega) (by omega) hw (lv_sub hl [2, 3, 4, 5, 1, 0] rfl)
set_option maxRecDepth 100000 in
set_option maxHeartbeats 4000000 in
theorem bX10_installs_84 {D : va_G} {cy : Nat → ClassId} {s0 : Nat} {p : Program} {l : Launch} {e : Env} {s : State} {m : MethodId} {args : Array Value} {below : List Frame} {meth : Method} {c : Code} (C : CX D cy s0 p s m args meth c cX10_installs 6 RX10 none) (hn : meth.name = "installs") : ∀ (x0 : Nat) (x1 : Int32) (x2 : Int32) (x3 : Int32) (h : Hp) (r : Unit × Hp), fX10_installs_84 x0 x1 x2 x3 h = some r → pX10_installs_84 D cy s0 p l e s m args below meth c r x0 x1 x2 x3 h := by
  intro x0 x1 x2 x3 h ⟨rv, rh⟩ hf H locs ls cells slots hc hs hw hl
  unfold fX10_installs_84 at hf
  have hx := C.1
  have hb := C.2.1
  refine lv_iconst (v := (0 : Int32)) hx hb dX10_installs_84 (by decide) ?_
  exact bX10_installs_85 C hn _ _ _ _ _ _ _ hf _ _ _ _ _ (by omega) (by omega) hw (lv_sub hl [0, 1, 2, 3] rfl)
set_option maxRecDepth 100000 in
set_option maxHeartbeats 4000000 in
theorem bX10_installs {D : va_G} {cy : Nat → ClassId} {s0 : Nat} {p : Program} {l : Launch} {e : Env} {s : State} {m : MethodId} {args : Array Value} {below : List Frame} {meth : Method} {c : Code} (C : CX D cy s0 p s m args meth c cX10_installs 6 RX10 none) (hn : meth.name = "installs") : ∀ (x0 : Nat) (x1 : Int32) (x2 : Int32) (x3 : Int32) (h : Hp) (r : Unit × Hp), fX10_installs x0 x1 x2 x3 h = some r → pX10_installs D cy s0 p l e s m args below meth c r x0 x1 x2 x3 h := by
  intro x0 x1 x2 x3 h ⟨rv, rh⟩ hf H locs ls cells slots hc hs hw hl
  unfold fX10_installs at hf
  have hx := C.1
  have hb := C.2.1
  refine lv_aload_n hx hb dX10_installs_0 rfl (lv_at hl 0 rfl) ?_
  obtain ⟨z1, e1, hf⟩ := ob hf
  refine r_gR C hw e1 ck10 rfl (by decide) w971 dX10_installs_1 ?_
  cases z1 with
  | none =>
    have hf := on_n hf
    cases hf
  | some a2 =>
    have hf := on_s hf
    refine W.eq (g2 := F0 m 4 ls [.ref a2]) rfl ?_
    refine lv_iload_n hx hb dX10_installs_4 rfl (lv_at hl 2 rfl) ?_
    refine lv_iconst (v := (0 : Int32)) hx hb dX10_installs_5 (by decide) ?_
    obtain ⟨h3, e3, hf⟩ := ob hf
    refine r_iast C hw e3 dX10_installs_6 (fun H locs hw => ?_)
    refine lv_aload_n hx hb dX10_installs_7 rfl (lv_at hl 0 rfl) ?_
    obtain ⟨z4, e4, hf⟩ := ob hf
    refine r_gR C hw e4 ck10 rfl (by decide) w969 dX10_installs_8 ?_
    cases z4 with
    | none =>
      have hf := on_n hf
      cases hf
    | some a5 =>
      have hf := on_s hf
      refine W.eq (g2 := F0 m 11 ls [.ref a5]) rfl ?_
      refine lv_iload_n hx hb dX10_installs_11 rfl (lv_at hl 2 rfl) ?_
      obtain ⟨z6, e6, hf⟩ := ob hf
      refine r_iald C hw e6 dX10_installs_12 ?_
      refine lv_aload_n hx hb dX10_installs_13 rfl (lv_at hl 0 rfl) ?_
      obtain ⟨z7, e7, hf⟩ := ob hf
      refine r_gR C hw e7 ck10 rfl (by decide) w982 dX10_installs_14 ?_
      cases z7 with
      | none =>
        have hf := on_n hf
        cases hf
      | some a8 =>
        have hf := on_s hf
        refine W.eq (g2 := F0 m 17 ls [.ref a8, .int z6]) rfl ?_
        refine lv_iload_n hx hb dX10_installs_17 rfl (lv_at hl 1 rfl) ?_
        obtain ⟨z9, e9, hf⟩ := ob hf
        refine r_iald C hw e9 dX10_installs_18 ?_
        refine lv_icmp_lt (tgt := 36) hx hb dX10_installs_19 (by decide) (fun c10 => ?_) (fun c10 => ?_)
        · have hf := ip hf c10
          refine lv_aload_n hx hb dX10_installs_36 rfl (lv_at hl 0 rfl) ?_
          refine lv_iload_n hx hb dX10_installs_37 rfl (lv_at hl 2 rfl) ?_
          obtain ⟨kb11, hf⟩ := ig hf
          obtain ⟨z11, h11, e11, hf⟩ := ob2 hf
          refine r_callV C hw (mX10_record e11) kXX10_record ck10 rfl kb11 w1136 w1138 v36 ⟨Nat.le_of_ble_eq_true rfl, Nat.le_of_ble_eq_true rfl⟩ rfl hl.1 (rest := []) rfl (Nat.le_of_ble_eq_true rfl) dX10_installs_38 (mc := 0) (ms := 0) rfl rfl ⟨by show _ + 0 ≤ 0; omega, by show _ + 0 ≤ 0; omega⟩ (fun H locs hw => ?_)
          refine W.eq (g2 := F0 m 41 ls [.int z11]) rfl ?_
          refine lv_if_ne (tgt := 45) hx hb dX10_installs_41 (by decide) (fun c12 => ?_) (fun c12 => ?_)
          · have hf := ie hf c12
            refine lv_aload_n hx hb dX10_installs_45 rfl (lv_at hl 0 rfl) ?_
            obtain ⟨z13, e13, hf⟩ := ob hf
            refine r_gR C hw e13 ck10 rfl (by decide) w982 dX10_installs_46 ?_
            cases z13 with
            | none =>
              have hf := on_n hf
              cases hf
            | some a14 =>
              have hf := on_s hf
              refine W.eq (g2 := F0 m 49 ls [.ref a14]) rfl ?_
              refine lv_iload_n hx hb dX10_installs_49 rfl (lv_at hl 1 rfl) ?_
              obtain ⟨z15, e15, hf⟩ := ob hf
              refine r_iald C hw e15 dX10_installs_50 ?_
              refine lv_aload_n hx hb dX10_installs_51 rfl (lv_at hl 0 rfl) ?_
              obtain ⟨z16, e16, hf⟩ := ob hf
              refine r_gR C hw e16 ck10 rfl (by decide) w968 dX10_installs_52 ?_
              cases z16 with
              | none =>
                have hf := on_n hf
                cases hf
              | some a17 =>
                have hf := on_s hf
                refine W.eq (g2 := F0 m 55 ls [.ref a17, .int z15]) rfl ?_
                refine lv_iload_n hx hb dX10_installs_55 rfl (lv_at hl 2 rfl) ?_
                obtain ⟨z18, e18, hf⟩ := ob hf
                refine r_iald C hw e18 dX10_installs_56 ?_
                refine lv_icmp_gt (tgt := 84) hx hb dX10_installs_57 (by decide) (fun c19 => ?_) (fun c19 => ?_)
                · have hf := ip hf c19
                  exact bX10_installs_84 C hn _ _ _ _ _ _ hf _ _ _ _ _ (by omega) (by omega) hw (lv_sub hl [0, 1, 2, 3] rfl)
                · have hf := ie hf c19
                  refine lv_aload_n hx hb dX10_installs_60 rfl (lv_at hl 0 rfl) ?_
                  refine lv_iload_n hx hb dX10_installs_61 rfl (lv_at hl 2 rfl) ?_
                  refine lv_aload_n hx hb dX10_installs_62 rfl (lv_at hl 0 rfl) ?_
                  obtain ⟨z20, e20, hf⟩ := ob hf
                  refine r_gR C hw e20 ck10 rfl (by decide) w982 dX10_installs_63 ?_
                  cases z20 with
                  | none =>
                    have hf := on_n hf
                    cases hf
                  | some a21 =>
                    have hf := on_s hf
                    refine W.eq (g2 := F0 m 66 ls [.ref a21, .int x2, .ref x0]) rfl ?_
                    refine lv_iload_n hx hb dX10_installs_66 rfl (lv_at hl 1 rfl) ?_
                    obtain ⟨z22, e22, hf⟩ := ob hf
                    refine r_iald C hw e22 dX10_installs_67 ?_
                    obtain ⟨kb23, hf⟩ := ig hf
                    obtain ⟨z23, h23, e23, hf⟩ := ob2 hf
                    refine r_callV C hw (mX10_termAt e23) kXX10_termAt ck10 rfl kb23 w1148 w1150 v39 ⟨Nat.le_of_ble_eq_true rfl, Nat.le_of_ble_eq_true rfl⟩ rfl hl.1 (rest := []) rfl (Nat.le_of_ble_eq_true rfl) dX10_installs_68 (mc := 0) (ms := 0) rfl rfl ⟨by show _ + 0 ≤ 0; omega, by show _ + 0 ≤ 0; omega⟩ (fun H locs hw => ?_)
                    refine W.eq (g2 := F0 m 71 ls [.int z23]) rfl ?_
                    refine lv_aload_n hx hb dX10_installs_71 rfl (lv_at hl 0 rfl) ?_
                    obtain ⟨z24, e24, hf⟩ := ob hf
                    refine r_gR C hw e24 ck10 rfl (by decide) w983 dX10_installs_72 ?_
                    cases z24 with
                    | none =>
                      have hf := on_n hf
                      cases hf
                    | some a25 =>
                      have hf := on_s hf
                      refine W.eq (g2 := F0 m 75 ls [.ref a25, .int z23]) rfl ?_
                      refine lv_iload_n hx hb dX10_installs_75 rfl (lv_at hl 1 rfl) ?_
                      obtain ⟨z26, e26, hf⟩ := ob hf
                      refine r_iald C hw e26 dX10_installs_76 ?_
                      refine lv_icmp_ne (tgt := 84) hx hb dX10_installs_77 (by decide) (fun c27 => ?_) (fun c27 => ?_)
                      · have hf := ie hf c27
                        exact bX10_installs_84 C hn _ _ _ _ _ _ hf _ _ _ _ _ (by omega) (by omega) hw (lv_sub hl [0, 1, 2, 3] rfl)
                      · have hf := ip hf c27
                        refine lv_iconst (v := (1 : Int32)) hx hb dX10_installs_80 (by decide) ?_
                        refine lv_goto (tgt := 85) hx hb dX10_installs_81 (by decide) ?_
                        exact bX10_installs_85 C hn _ _ _ _ _ _ _ hf _ _ _ _ _ (by omega) (by omega) hw (lv_sub hl [0, 1, 2, 3] rfl)
          · have hf := ip hf c12
            obtain ⟨rfl, rfl⟩ := sp hf
            exact r_vret C hw rfl (by omega) (by omega) dX10_installs_44
        · have hf := ie hf c10
          refine lv_aload_n hx hb dX10_installs_22 rfl (lv_at hl 0 rfl) ?_
          refine lv_iconst (v := (3 : Int32)) hx hb dX10_installs_23 (by decide) ?_
          refine lv_iload_n hx hb dX10_installs_24 rfl (lv_at hl 2 rfl) ?_
          refine lv_iload_n hx hb dX10_installs_25 rfl (lv_at hl 3 rfl) ?_
          refine lv_aload_n hx hb dX10_installs_26 rfl (lv_at hl 0 rfl) ?_
          obtain ⟨z28, e28, hf⟩ := ob hf
          refine r_gR C hw e28 ck10 rfl (by decide) w969 dX10_installs_27 ?_
          cases z28 with
          | none =>
            have hf := on_n hf
            cases hf
          | some a29 =>
            have hf := on_s hf
            refine W.eq (g2 := F0 m 30 ls [.ref a29, .int x3, .int x2, .int (3 : Int32), .ref x0]) rfl ?_
            refine lv_iload_n hx hb dX10_installs_30 rfl (lv_at hl 2 rfl) ?_
            obtain ⟨z30, e30, hf⟩ := ob hf
            refine r_iald C hw e30 dX10_installs_31 ?_
            obtain ⟨kb31, hf⟩ := ig hf
            obtain ⟨z31, h31, e31, hf⟩ := ob2 hf
            refine r_callV C hw (mX10_answer e31) kXX10_answer ck10 rfl kb31 w1164 w1166 v42 ⟨Nat.le_of_ble_eq_true rfl, Nat.le_of_ble_eq_true rfl⟩ rfl hl.1 (rest := []) rfl (Nat.le_of_ble_eq_true rfl) dX10_installs_32 (mc := 0) (ms := 0) rfl rfl ⟨by show _ + 0 ≤ 0; omega, by show _ + 0 ≤ 0; omega⟩ (fun H locs hw => ?_)
            refine W.eq (g2 := F0 m 35 ls []) rfl ?_
            obtain ⟨rfl, rfl⟩ := sp hf
            exact r_vret C hw rfl (by omega) (by omega) dX10_installs_35
theorem kXX10_installs : MK yX10_installs cX10_installs 6 none 3 := ⟨w1205, w8, by decide +kernel⟩
theorem mX10_installs {D : va_G} {cy : Nat → ClassId} {s0 : Nat} {l : Launch} {x0 : Nat} {x1 : Int32} {x2 : Int32} {x3 : Int32} {h : Hp} {v : Unit} {h1 : Hp} (hf : fX10_installs x0 x1 x2 x3 h = some (v, h1)) : MT D cy s0 l yX10_installs cX10_installs 6 none rX10_installs [.ref x0, .int x1, .int x2, .int x3] h none h1 := by
  refine MT.of (by decide +kernel) (Nat.le_of_ble_eq_true rfl) ?_
  intro p e s m below meth c H locs ls C hn hw hl
  exact bX10_installs C hn _ _ _ _ _ _ hf _ _ _ _ _ (Nat.le_of_ble_eq_true rfl) (Nat.le_of_ble_eq_true rfl) hw hl
abbrev rX10_got : Room := { frames := 5, cells := 0, slots := 0, locals := 119 }
abbrev pX10_got_294 (D : va_G) (cy : Nat → ClassId) (s0 : Nat) (p : Program) (l : Launch) (e : Env) (s : State) (m : MethodId) (args : Array Value) (below : List Frame) (meth : Method) (c : Code) (r : Unit × Hp) (x0 : Nat) (x2 : Int32) (x3 : Int32) (h : Hp) : Prop := ∀ (H : Heap) (locs : List Loc) (ls : Array Slot) (cells slots : Nat), cells + (0) ≤ 0 → slots + (0) ≤ 0 → WS D cy s0 s h H locs → lv_has ls 4 [(0, .ref x0), (2, .int x2), (3, .int x3)] → W p l e rX10_got s m args below meth c H locs cells slots (MQ below (QQ D cy s0 none r.2) args s 0 0 (fun q => s0 ≤ q)) (F0 m 294 ls [])
abbrev pX10_got_102 (D : va_G) (cy : Nat → ClassId) (s0 : Nat) (p : Program) (l : Launch) (e : Env) (s : State) (m : MethodId) (args : Array Value) (below : List Frame) (meth : Method) (c : Code) (r : Unit × Hp) (x0 : Nat) (x2 : Int32) (x3 : Int32) (h : Hp) : Prop := ∀ (H : Heap) (locs : List Loc) (ls : Array Slot) (cells slots : Nat), cells + (0) ≤ 0 → slots + (0) ≤ 0 → WS D cy s0 s h H locs → lv_has ls 4 [(0, .ref x0), (2, .int x2), (3, .int x3)] → W p l e rX10_got s m args below meth c H locs cells slots (MQ below (QQ D cy s0 none r.2) args s 0 0 (fun q => s0 ≤ q)) (F0 m 102 ls [])
abbrev pX10_got_82 (D : va_G) (cy : Nat → ClassId) (s0 : Nat) (p : Program) (l : Launch) (e : Env) (s : State) (m : MethodId) (args : Array Value) (below : List Frame) (meth : Method) (c : Code) (r : Unit × Hp) (x0 : Nat) (x1 : Int32) (x2 : Int32) (x3 : Int32) (h : Hp) : Prop := ∀ (H : Heap) (locs : List Loc) (ls : Array Slot) (cells slots : Nat), cells + (0) ≤ 0 → slots + (0) ≤ 0 → WS D cy s0 s h H locs → lv_has ls 4 [(0, .ref x0), (1, .int x1), (2, .int x2), (3, .int x3)] → W p l e rX10_got s m args below meth c H locs cells slots (MQ below (QQ D cy s0 none r.2) args s 0 0 (fun q => s0 ≤ q)) (F0 m 82 ls [])
abbrev pX10_got_50 (D : va_G) (cy : Nat → ClassId) (s0 : Nat) (p : Program) (l : Launch) (e : Env) (s : State) (m : MethodId) (args : Array Value) (below : List Frame) (meth : Method) (c : Code) (r : Unit × Hp) (x0 : Nat) (x1 : Int32) (x2 : Int32) (x3 : Int32) (h : Hp) : Prop := ∀ (H : Heap) (locs : List Loc) (ls : Array Slot) (cells slots : Nat), cells + (0) ≤ 0 → slots + (0) ≤ 0 → WS D cy s0 s h H locs → lv_has ls 4 [(0, .ref x0), (1, .int x1), (2, .int x2), (3, .int x3)] → W p l e rX10_got s m args below meth c H locs cells slots (MQ below (QQ D cy s0 none r.2) args s 0 0 (fun q => s0 ≤ q)) (F0 m 50 ls [])
abbrev pX10_got (D : va_G) (cy : Nat → ClassId) (s0 : Nat) (p : Program) (l : Launch) (e : Env) (s : State) (m : MethodId) (args : Array Value) (below : List Frame) (meth : Method) (c : Code) (r : Unit × Hp) (x0 : Nat) (x1 : Int32) (x2 : Int32) (x3 : Int32) (h : Hp) : Prop := ∀ (H : Heap) (locs : List Loc) (ls : Array Slot) (cells slots : Nat), cells + (0) ≤ 0 → slots + (0) ≤ 0 → WS D cy s0 s h H locs → lv_has ls 4 [(0, .ref x0), (1, .int x1), (2, .int x2), (3, .int x3)] → W p l e rX10_got s m args below meth c H locs cells slots (MQ below (QQ D cy s0 none r.2) args s 0 0 (fun q => s0 ≤ q)) (F0 m 0 ls [])
set_option maxRecDepth 100000 in
set_option maxHeartbeats 4000000 in
theorem bX10_got_294 {D : va_G} {cy : Nat → ClassId} {s0 : Nat} {p : Program} {l : Launch} {e : Env} {s : State} {m : MethodId} {args : Array Value} {below : List Frame} {meth : Method} {c : Code} (C : CX D cy s0 p s m args meth c cX10_got 4 RX10 none) (hn : meth.name = "got") : ∀ (x0 : Nat) (x2 : Int32) (x3 : Int32) (h : Hp) (r : Unit × Hp), fX10_got_294 x0 x2 x3 h = some r → pX10_got_294 D cy s0 p l e s m args below meth c r x0 x2 x3 h := by
  intro x0 x2 x3 h ⟨rv, rh⟩ hf H locs ls cells slots hc hs hw hl
  unfold fX10_got_294 at hf
  have hx := C.1
  have hb := C.2.1
  refine lv_aload_n hx hb dX10_got_294 rfl (lv_at hl 0 rfl) ?_
  refine lv_iload_n hx hb dX10_got_295 rfl (lv_at hl 1 rfl) ?_
  refine lv_iload_n hx hb dX10_got_296 rfl (lv_at hl 2 rfl) ?_
  obtain ⟨kb1, hf⟩ := ig hf
  obtain ⟨z1, h1, e1, hf⟩ := ob2 hf
  refine r_callV C hw (mX10_send e1) kXX10_send ck10 rfl kb1 w1188 w1190 v48 ⟨Nat.le_of_ble_eq_true rfl, Nat.le_of_ble_eq_true rfl⟩ rfl hl.1 (rest := []) rfl (Nat.le_of_ble_eq_true rfl) dX10_got_297 (mc := 0) (ms := 0) rfl rfl ⟨by show _ + 0 ≤ 0; omega, by show _ + 0 ≤ 0; omega⟩ (fun H locs hw => ?_)
  refine W.eq (g2 := F0 m 300 ls []) rfl ?_
  refine lv_goto (tgt := 310) hx hb dX10_got_300 (by decide) ?_
  obtain ⟨rfl, rfl⟩ := sp hf
  exact r_vret C hw rfl (by omega) (by omega) dX10_got_310
set_option maxRecDepth 100000 in
set_option maxHeartbeats 4000000 in
theorem bX10_got_102 {D : va_G} {cy : Nat → ClassId} {s0 : Nat} {p : Program} {l : Launch} {e : Env} {s : State} {m : MethodId} {args : Array Value} {below : List Frame} {meth : Method} {c : Code} (C : CX D cy s0 p s m args meth c cX10_got 4 RX10 none) (hn : meth.name = "got") : ∀ (x0 : Nat) (x2 : Int32) (x3 : Int32) (h : Hp) (r : Unit × Hp), fX10_got_102 x0 x2 x3 h = some r → pX10_got_102 D cy s0 p l e s m args below meth c r x0 x2 x3 h := by
  intro x0 x2 x3 h ⟨rv, rh⟩ hf H locs ls cells slots hc hs hw hl
  unfold fX10_got_102 at hf
  have hx := C.1
  have hb := C.2.1
  refine lv_aload_n hx hb dX10_got_102 rfl (lv_at hl 0 rfl) ?_
  refine lv_iconst (v := (4 : Int32)) hx hb dX10_got_103 (by decide) ?_
  refine lv_iload_n hx hb dX10_got_104 rfl (lv_at hl 1 rfl) ?_
  refine lv_iload_n hx hb dX10_got_105 rfl (lv_at hl 2 rfl) ?_
  refine lv_aload_n hx hb dX10_got_106 rfl (lv_at hl 0 rfl) ?_
  obtain ⟨z1, e1, hf⟩ := ob hf
  refine r_gR C hw e1 ck10 rfl (by decide) w968 dX10_got_107 ?_
  cases z1 with
  | none =>
    have hf := on_n hf
    cases hf
  | some a2 =>
    have hf := on_s hf
    refine W.eq (g2 := F0 m 110 ls [.ref a2, .int x3, .int x2, .int (4 : Int32), .ref x0]) rfl ?_
    refine lv_iload_n hx hb dX10_got_110 rfl (lv_at hl 1 rfl) ?_
    obtain ⟨z3, e3, hf⟩ := ob hf
    refine r_iald C hw e3 dX10_got_111 ?_
    obtain ⟨kb4, hf⟩ := ig hf
    obtain ⟨z4, h4, e4, hf⟩ := ob2 hf
    refine r_callV C hw (mX10_answer e4) kXX10_answer ck10 rfl kb4 w1164 w1166 v42 ⟨Nat.le_of_ble_eq_true rfl, Nat.le_of_ble_eq_true rfl⟩ rfl hl.1 (rest := []) rfl (Nat.le_of_ble_eq_true rfl) dX10_got_112 (mc := 0) (ms := 0) rfl rfl ⟨by show _ + 0 ≤ 0; omega, by show _ + 0 ≤ 0; omega⟩ (fun H locs hw => ?_)
    refine W.eq (g2 := F0 m 115 ls []) rfl ?_
    obtain ⟨rfl, rfl⟩ := sp hf
    exact r_vret C hw rfl (by omega) (by omega) dX10_got_115
set_option maxRecDepth 100000 in
set_option maxHeartbeats 4000000 in
theorem bX10_got_82 {D : va_G} {cy : Nat → ClassId} {s0 : Nat} {p : Program} {l : Launch} {e : Env} {s : State} {m : MethodId} {args : Array Value} {below : List Frame} {meth : Method} {c : Code} (C : CX D cy s0 p s m args meth c cX10_got 4 RX10 none) (hn : meth.name = "got") : ∀ (x0 : Nat) (x1 : Int32) (x2 : Int32) (x3 : Int32) (h : Hp) (r : Unit × Hp), fX10_got_82 x0 x1 x2 x3 h = some r → pX10_got_82 D cy s0 p l e s m args below meth c r x0 x1 x2 x3 h := by
  intro x0 x1 x2 x3 h ⟨rv, rh⟩ hf H locs ls cells slots hc hs hw hl
  unfold fX10_got_82 at hf
  have hx := C.1
  have hb := C.2.1
  refine lv_aload_n hx hb dX10_got_82 rfl (lv_at hl 0 rfl) ?_
  obtain ⟨z1, e1, hf⟩ := ob hf
  refine r_gR C hw e1 ck10 rfl (by decide) w978 dX10_got_83 ?_
  cases z1 with
  | none =>
    have hf := on_n hf
    cases hf
  | some a2 =>
    have hf := on_s hf
    refine W.eq (g2 := F0 m 86 ls [.ref a2]) rfl ?_
    refine lv_iload_n hx hb dX10_got_86 rfl (lv_at hl 1 rfl) ?_
    obtain ⟨z3, e3, hf⟩ := ob hf
    refine r_iald C hw e3 dX10_got_87 ?_
    refine lv_iconst (v := (2 : Int32)) hx hb dX10_got_88 (by decide) ?_
    refine lv_icmp_eq (tgt := 102) hx hb dX10_got_89 (by decide) (fun c4 => ?_) (fun c4 => ?_)
    · have hf := ip hf c4
      exact bX10_got_102 C hn _ _ _ _ _ hf _ _ _ _ _ (by omega) (by omega) hw (lv_sub hl [0, 2, 3] rfl)
    · have hf := ie hf c4
      refine lv_aload_n hx hb dX10_got_92 rfl (lv_at hl 0 rfl) ?_
      obtain ⟨z5, e5, hf⟩ := ob hf
      refine r_gR C hw e5 ck10 rfl (by decide) w978 dX10_got_93 ?_
      cases z5 with
      | none =>
        have hf := on_n hf
        cases hf
      | some a6 =>
        have hf := on_s hf
        refine W.eq (g2 := F0 m 96 ls [.ref a6]) rfl ?_
        refine lv_iload_n hx hb dX10_got_96 rfl (lv_at hl 1 rfl) ?_
        obtain ⟨z7, e7, hf⟩ := ob hf
        refine r_iald C hw e7 dX10_got_97 ?_
        refine lv_iconst (v := (5 : Int32)) hx hb dX10_got_98 (by decide) ?_
        refine lv_icmp_ne (tgt := 115) hx hb dX10_got_99 (by decide) (fun c8 => ?_) (fun c8 => ?_)
        · have hf := ie hf c8
          obtain ⟨rfl, rfl⟩ := sp hf
          exact r_vret C hw rfl (by omega) (by omega) dX10_got_115
        · have hf := ip hf c8
          exact bX10_got_102 C hn _ _ _ _ _ hf _ _ _ _ _ (by omega) (by omega) hw (lv_sub hl [0, 2, 3] rfl)
set_option maxRecDepth 100000 in
set_option maxHeartbeats 4000000 in
theorem bX10_got_50 {D : va_G} {cy : Nat → ClassId} {s0 : Nat} {p : Program} {l : Launch} {e : Env} {s : State} {m : MethodId} {args : Array Value} {below : List Frame} {meth : Method} {c : Code} (C : CX D cy s0 p s m args meth c cX10_got 4 RX10 none) (hn : meth.name = "got") : ∀ (x0 : Nat) (x1 : Int32) (x2 : Int32) (x3 : Int32) (h : Hp) (r : Unit × Hp), fX10_got_50 x0 x1 x2 x3 h = some r → pX10_got_50 D cy s0 p l e s m args below meth c r x0 x1 x2 x3 h := by
  intro x0 x1 x2 x3 h ⟨rv, rh⟩ hf H locs ls cells slots hc hs hw hl
  unfold fX10_got_50 at hf
  have hx := C.1
  have hb := C.2.1
  refine lv_aload_n hx hb dX10_got_50 rfl (lv_at hl 0 rfl) ?_
  obtain ⟨z1, e1, hf⟩ := ob hf
  refine r_gR C hw e1 ck10 rfl (by decide) w981 dX10_got_51 ?_
  cases z1 with
  | none =>
    have hf := on_n hf
    cases hf
  | some a2 =>
    have hf := on_s hf
    refine W.eq (g2 := F0 m 54 ls [.ref a2]) rfl ?_
    refine lv_iload_n hx hb dX10_got_54 rfl (lv_at hl 1 rfl) ?_
    obtain ⟨z3, e3, hf⟩ := ob hf
    refine r_iald C hw e3 dX10_got_55 ?_
    refine lv_aload_n hx hb dX10_got_56 rfl (lv_at hl 0 rfl) ?_
    obtain ⟨z4, e4, hf⟩ := ob hf
    refine r_gR C hw e4 ck10 rfl (by decide) w965 dX10_got_57 ?_
    cases z4 with
    | none =>
      have hf := on_n hf
      cases hf
    | some a5 =>
      have hf := on_s hf
      refine W.eq (g2 := F0 m 60 ls [.ref a5, .int z3]) rfl ?_
      refine lv_iload_n hx hb dX10_got_60 rfl (lv_at hl 2 rfl) ?_
      obtain ⟨z6, e6, hf⟩ := ob hf
      refine r_iald C hw e6 dX10_got_61 ?_
      refine lv_icmp_ge (tgt := 116) hx hb dX10_got_62 (by decide) (fun c7 => ?_) (fun c7 => ?_)
      · have hf := ip hf c7
        refine lv_aload_n hx hb dX10_got_116 rfl (lv_at hl 0 rfl) ?_
        obtain ⟨z8, e8, hf⟩ := ob hf
        refine r_gR C hw e8 ck10 rfl (by decide) w978 dX10_got_117 ?_
        cases z8 with
        | none =>
          have hf := on_n hf
          cases hf
        | some a9 =>
          have hf := on_s hf
          refine W.eq (g2 := F0 m 120 ls [.ref a9]) rfl ?_
          refine lv_iload_n hx hb dX10_got_120 rfl (lv_at hl 1 rfl) ?_
          obtain ⟨z10, e10, hf⟩ := ob hf
          refine r_iald C hw e10 dX10_got_121 ?_
          by_cases n57 : z10 = (0 : Int32)
          · have hf := ip hf n57
            refine lv_tableIn (tgt := 156) (off := 34) hx hb dX10_got_122 (by rw [n57]; decide) (by rw [n57]; decide) (by rw [n57]; rfl) (by decide) ?_
            refine lv_aload_n hx hb dX10_got_156 rfl (lv_at hl 0 rfl) ?_
            refine lv_iload_n hx hb dX10_got_157 rfl (lv_at hl 1 rfl) ?_
            refine lv_iload_n hx hb dX10_got_158 rfl (lv_at hl 2 rfl) ?_
            refine lv_iload_n hx hb dX10_got_159 rfl (lv_at hl 3 rfl) ?_
            obtain ⟨kb12, hf⟩ := ig hf
            obtain ⟨z12, h12, e12, hf⟩ := ob2 hf
            refine r_callV C hw (mX10_asked e12) kXX10_asked ck10 rfl kb12 w1168 w1170 v43 ⟨Nat.le_of_ble_eq_true rfl, Nat.le_of_ble_eq_true rfl⟩ rfl hl.1 (rest := []) rfl (Nat.le_of_ble_eq_true rfl) dX10_got_160 (mc := 0) (ms := 0) rfl rfl ⟨by show _ + 0 ≤ 0; omega, by show _ + 0 ≤ 0; omega⟩ (fun H locs hw => ?_)
            refine W.eq (g2 := F0 m 163 ls []) rfl ?_
            refine lv_goto (tgt := 310) hx hb dX10_got_163 (by decide) ?_
            obtain ⟨rfl, rfl⟩ := sp hf
            exact r_vret C hw rfl (by omega) (by omega) dX10_got_310
          · have hf := ie hf n57
            by_cases n58 : z10 = (1 : Int32)
            · have hf := ip hf n58
              refine lv_tableIn (tgt := 166) (off := 44) hx hb dX10_got_122 (by rw [n58]; decide) (by rw [n58]; decide) (by rw [n58]; rfl) (by decide) ?_
              refine lv_aload_n hx hb dX10_got_166 rfl (lv_at hl 0 rfl) ?_
              obtain ⟨z13, e13, hf⟩ := ob hf
              refine r_gR C hw e13 ck10 rfl (by decide) w971 dX10_got_167 ?_
              cases z13 with
              | none =>
                have hf := on_n hf
                cases hf
              | some a14 =>
                have hf := on_s hf
                refine W.eq (g2 := F0 m 170 ls [.ref a14]) rfl ?_
                refine lv_iload_n hx hb dX10_got_170 rfl (lv_at hl 2 rfl) ?_
                obtain ⟨z15, e15, hf⟩ := ob hf
                refine r_iald C hw e15 dX10_got_171 ?_
                refine lv_iconst (v := (1 : Int32)) hx hb dX10_got_172 (by decide) ?_
                refine lv_icmp_ne (tgt := 310) hx hb dX10_got_173 (by decide) (fun c16 => ?_) (fun c16 => ?_)
                · have hf := ie hf c16
                  obtain ⟨rfl, rfl⟩ := sp hf
                  exact r_vret C hw rfl (by omega) (by omega) dX10_got_310
                · have hf := ip hf c16
                  refine lv_aload_n hx hb dX10_got_176 rfl (lv_at hl 0 rfl) ?_
                  obtain ⟨z17, e17, hf⟩ := ob hf
                  refine r_gR C hw e17 ck10 rfl (by decide) w982 dX10_got_177 ?_
                  cases z17 with
                  | none =>
                    have hf := on_n hf
                    cases hf
                  | some a18 =>
                    have hf := on_s hf
                    refine W.eq (g2 := F0 m 180 ls [.ref a18]) rfl ?_
                    refine lv_iload_n hx hb dX10_got_180 rfl (lv_at hl 1 rfl) ?_
                    obtain ⟨z19, e19, hf⟩ := ob hf
                    refine r_iald C hw e19 dX10_got_181 ?_
                    refine lv_iconst (v := (1 : Int32)) hx hb dX10_got_182 (by decide) ?_
                    refine lv_icmp_ne (tgt := 310) hx hb dX10_got_183 (by decide) (fun c20 => ?_) (fun c20 => ?_)
                    · have hf := ie hf c20
                      obtain ⟨rfl, rfl⟩ := sp hf
                      exact r_vret C hw rfl (by omega) (by omega) dX10_got_310
                    · have hf := ip hf c20
                      refine lv_aload_n hx hb dX10_got_186 rfl (lv_at hl 0 rfl) ?_
                      refine lv_iload_n hx hb dX10_got_187 rfl (lv_at hl 2 rfl) ?_
                      refine lv_iload_n hx hb dX10_got_188 rfl (lv_at hl 3 rfl) ?_
                      obtain ⟨kb21, hf⟩ := ig hf
                      obtain ⟨z21, h21, e21, hf⟩ := ob2 hf
                      refine r_callV C hw (mX10_counts e21) kXX10_counts ck10 rfl kb21 w1172 w1174 v44 ⟨Nat.le_of_ble_eq_true rfl, Nat.le_of_ble_eq_true rfl⟩ rfl hl.1 (rest := []) rfl (Nat.le_of_ble_eq_true rfl) dX10_got_189 (mc := 0) (ms := 0) rfl rfl ⟨by show _ + 0 ≤ 0; omega, by show _ + 0 ≤ 0; omega⟩ (fun H locs hw => ?_)
                      refine W.eq (g2 := F0 m 192 ls []) rfl ?_
                      refine lv_goto (tgt := 310) hx hb dX10_got_192 (by decide) ?_
                      obtain ⟨rfl, rfl⟩ := sp hf
                      exact r_vret C hw rfl (by omega) (by omega) dX10_got_310
            · have hf := ie hf n58
              by_cases n59 : z10 = (2 : Int32)
              · have hf := ip hf n59
                refine lv_tableIn (tgt := 195) (off := 73) hx hb dX10_got_122 (by rw [n59]; decide) (by rw [n59]; decide) (by rw [n59]; rfl) (by decide) ?_
                refine lv_aload_n hx hb dX10_got_195 rfl (lv_at hl 0 rfl) ?_
                refine lv_iload_n hx hb dX10_got_196 rfl (lv_at hl 1 rfl) ?_
                refine lv_iload_n hx hb dX10_got_197 rfl (lv_at hl 2 rfl) ?_
                refine lv_iload_n hx hb dX10_got_198 rfl (lv_at hl 3 rfl) ?_
                obtain ⟨kb22, hf⟩ := ig hf
                obtain ⟨z22, h22, e22, hf⟩ := ob2 hf
                refine r_callV C hw (mX10_appends e22) kXX10_appends ck10 rfl kb22 w1193 w1195 v49 ⟨Nat.le_of_ble_eq_true rfl, Nat.le_of_ble_eq_true rfl⟩ rfl hl.1 (rest := []) rfl (Nat.le_of_ble_eq_true rfl) dX10_got_199 (mc := 0) (ms := 0) rfl rfl ⟨by show _ + 0 ≤ 0; omega, by show _ + 0 ≤ 0; omega⟩ (fun H locs hw => ?_)
                refine W.eq (g2 := F0 m 202 ls []) rfl ?_
                refine lv_goto (tgt := 310) hx hb dX10_got_202 (by decide) ?_
                obtain ⟨rfl, rfl⟩ := sp hf
                exact r_vret C hw rfl (by omega) (by omega) dX10_got_310
              · have hf := ie hf n59
                by_cases n60 : z10 = (3 : Int32)
                · have hf := ip hf n60
                  refine lv_tableIn (tgt := 205) (off := 83) hx hb dX10_got_122 (by rw [n60]; decide) (by rw [n60]; decide) (by rw [n60]; rfl) (by decide) ?_
                  refine lv_aload_n hx hb dX10_got_205 rfl (lv_at hl 0 rfl) ?_
                  obtain ⟨z23, e23, hf⟩ := ob hf
                  refine r_gR C hw e23 ck10 rfl (by decide) w971 dX10_got_206 ?_
                  cases z23 with
                  | none =>
                    have hf := on_n hf
                    cases hf
                  | some a24 =>
                    have hf := on_s hf
                    refine W.eq (g2 := F0 m 209 ls [.ref a24]) rfl ?_
                    refine lv_iload_n hx hb dX10_got_209 rfl (lv_at hl 2 rfl) ?_
                    obtain ⟨z25, e25, hf⟩ := ob hf
                    refine r_iald C hw e25 dX10_got_210 ?_
                    refine lv_iconst (v := (2 : Int32)) hx hb dX10_got_211 (by decide) ?_
                    refine lv_icmp_ne (tgt := 310) hx hb dX10_got_212 (by decide) (fun c26 => ?_) (fun c26 => ?_)
                    · have hf := ie hf c26
                      obtain ⟨rfl, rfl⟩ := sp hf
                      exact r_vret C hw rfl (by omega) (by omega) dX10_got_310
                    · have hf := ip hf c26
                      refine lv_aload_n hx hb dX10_got_215 rfl (lv_at hl 0 rfl) ?_
                      refine lv_iload_n hx hb dX10_got_216 rfl (lv_at hl 2 rfl) ?_
                      refine lv_iload_n hx hb dX10_got_217 rfl (lv_at hl 3 rfl) ?_
                      refine lv_aload_n hx hb dX10_got_218 rfl (lv_at hl 0 rfl) ?_
                      obtain ⟨z27, e27, hf⟩ := ob hf
                      refine r_gR C hw e27 ck10 rfl (by decide) w982 dX10_got_219 ?_
                      cases z27 with
                      | none =>
                        have hf := on_n hf
                        cases hf
                      | some a28 =>
                        have hf := on_s hf
                        refine W.eq (g2 := F0 m 222 ls [.ref a28, .int x3, .int x2, .ref x0]) rfl ?_
                        refine lv_iload_n hx hb dX10_got_222 rfl (lv_at hl 1 rfl) ?_
                        obtain ⟨z29, e29, hf⟩ := ob hf
                        refine r_iald C hw e29 dX10_got_223 ?_
                        obtain ⟨kb30, hf⟩ := ig hf
                        obtain ⟨z30, h30, e30, hf⟩ := ob2 hf
                        refine r_callV C hw (mX10_accepted e30) kXX10_accepted ck10 rfl kb30 w1198 w1200 v50 ⟨Nat.le_of_ble_eq_true rfl, Nat.le_of_ble_eq_true rfl⟩ rfl hl.1 (rest := []) rfl (Nat.le_of_ble_eq_true rfl) dX10_got_224 (mc := 0) (ms := 0) rfl rfl ⟨by show _ + 0 ≤ 0; omega, by show _ + 0 ≤ 0; omega⟩ (fun H locs hw => ?_)
                        refine W.eq (g2 := F0 m 227 ls []) rfl ?_
                        refine lv_goto (tgt := 310) hx hb dX10_got_227 (by decide) ?_
                        obtain ⟨rfl, rfl⟩ := sp hf
                        exact r_vret C hw rfl (by omega) (by omega) dX10_got_310
                · have hf := ie hf n60
                  by_cases n61 : z10 = (4 : Int32)
                  · have hf := ip hf n61
                    refine lv_tableIn (tgt := 230) (off := 108) hx hb dX10_got_122 (by rw [n61]; decide) (by rw [n61]; decide) (by rw [n61]; rfl) (by decide) ?_
                    refine lv_aload_n hx hb dX10_got_230 rfl (lv_at hl 0 rfl) ?_
                    obtain ⟨z31, e31, hf⟩ := ob hf
                    refine r_gR C hw e31 ck10 rfl (by decide) w971 dX10_got_231 ?_
                    cases z31 with
                    | none =>
                      have hf := on_n hf
                      cases hf
                    | some a32 =>
                      have hf := on_s hf
                      refine W.eq (g2 := F0 m 234 ls [.ref a32]) rfl ?_
                      refine lv_iload_n hx hb dX10_got_234 rfl (lv_at hl 2 rfl) ?_
                      obtain ⟨z33, e33, hf⟩ := ob hf
                      refine r_iald C hw e33 dX10_got_235 ?_
                      refine lv_iconst (v := (2 : Int32)) hx hb dX10_got_236 (by decide) ?_
                      refine lv_icmp_ne (tgt := 310) hx hb dX10_got_237 (by decide) (fun c34 => ?_) (fun c34 => ?_)
                      · have hf := ie hf c34
                        obtain ⟨rfl, rfl⟩ := sp hf
                        exact r_vret C hw rfl (by omega) (by omega) dX10_got_310
                      · have hf := ip hf c34
                        refine lv_aload_n hx hb dX10_got_240 rfl (lv_at hl 0 rfl) ?_
                        obtain ⟨z35, e35, hf⟩ := ob hf
                        refine r_gR C hw e35 ck10 rfl (by decide) w974 dX10_got_241 ?_
                        cases z35 with
                        | none =>
                          have hf := on_n hf
                          cases hf
                        | some a36 =>
                          have hf := on_s hf
                          refine W.eq (g2 := F0 m 244 ls [.ref a36]) rfl ?_
                          refine lv_iconst (v := (5 : Int32)) hx hb dX10_got_244 (by decide) ?_
                          refine lv_iload_n hx hb dX10_got_245 rfl (lv_at hl 2 rfl) ?_
                          refine lv_imul hx hb dX10_got_246 ?_
                          refine lv_iload_n hx hb dX10_got_247 rfl (lv_at hl 3 rfl) ?_
                          refine lv_iadd hx hb dX10_got_248 ?_
                          obtain ⟨z37, e37, hf⟩ := ob hf
                          refine r_iald C hw e37 dX10_got_249 ?_
                          refine lv_aload_n hx hb dX10_got_250 rfl (lv_at hl 0 rfl) ?_
                          obtain ⟨z38, e38, hf⟩ := ob hf
                          refine r_gR C hw e38 ck10 rfl (by decide) w982 dX10_got_251 ?_
                          cases z38 with
                          | none =>
                            have hf := on_n hf
                            cases hf
                          | some a39 =>
                            have hf := on_s hf
                            refine W.eq (g2 := F0 m 254 ls [.ref a39, .int z37]) rfl ?_
                            refine lv_iload_n hx hb dX10_got_254 rfl (lv_at hl 1 rfl) ?_
                            obtain ⟨z40, e40, hf⟩ := ob hf
                            refine r_iald C hw e40 dX10_got_255 ?_
                            refine lv_iconst (v := (1 : Int32)) hx hb dX10_got_256 (by decide) ?_
                            refine lv_iadd hx hb dX10_got_257 ?_
                            refine lv_icmp_le (tgt := 294) hx hb dX10_got_258 (by decide) (fun c41 => ?_) (fun c41 => ?_)
                            · have hf := ip hf c41
                              exact bX10_got_294 C hn _ _ _ _ _ hf _ _ _ _ _ (by omega) (by omega) hw (lv_sub hl [0, 2, 3] rfl)
                            · have hf := ie hf c41
                              refine lv_aload_n hx hb dX10_got_261 rfl (lv_at hl 0 rfl) ?_
                              obtain ⟨z42, e42, hf⟩ := ob hf
                              refine r_gR C hw e42 ck10 rfl (by decide) w974 dX10_got_262 ?_
                              cases z42 with
                              | none =>
                                have hf := on_n hf
                                cases hf
                              | some a43 =>
                                have hf := on_s hf
                                refine W.eq (g2 := F0 m 265 ls [.ref a43]) rfl ?_
                                refine lv_iconst (v := (5 : Int32)) hx hb dX10_got_265 (by decide) ?_
                                refine lv_iload_n hx hb dX10_got_266 rfl (lv_at hl 2 rfl) ?_
                                refine lv_imul hx hb dX10_got_267 ?_
                                refine lv_iload_n hx hb dX10_got_268 rfl (lv_at hl 3 rfl) ?_
                                refine lv_iadd hx hb dX10_got_269 ?_
                                refine lv_aload_n hx hb dX10_got_270 rfl (lv_at hl 0 rfl) ?_
                                obtain ⟨z44, e44, hf⟩ := ob hf
                                refine r_gR C hw e44 ck10 rfl (by decide) w982 dX10_got_271 ?_
                                cases z44 with
                                | none =>
                                  have hf := on_n hf
                                  cases hf
                                | some a45 =>
                                  have hf := on_s hf
                                  refine W.eq (g2 := F0 m 274 ls [.ref a45, .int (((5 : Int32) * x2) + x3), .ref a43]) rfl ?_
                                  refine lv_iload_n hx hb dX10_got_274 rfl (lv_at hl 1 rfl) ?_
                                  obtain ⟨z46, e46, hf⟩ := ob hf
                                  refine r_iald C hw e46 dX10_got_275 ?_
                                  refine lv_iconst (v := (1 : Int32)) hx hb dX10_got_276 (by decide) ?_
                                  refine lv_iadd hx hb dX10_got_277 ?_
                                  refine lv_aload_n hx hb dX10_got_278 rfl (lv_at hl 0 rfl) ?_
                                  obtain ⟨z47, e47, hf⟩ := ob hf
                                  refine r_gR C hw e47 ck10 rfl (by decide) w975 dX10_got_279 ?_
                                  cases z47 with
                                  | none =>
                                    have hf := on_n hf
                                    cases hf
                                  | some a48 =>
                                    have hf := on_s hf
                                    refine W.eq (g2 := F0 m 282 ls [.ref a48, .int (z46 + (1 : Int32)), .int (((5 : Int32) * x2) + x3), .ref a43]) rfl ?_
                                    refine lv_iconst (v := (5 : Int32)) hx hb dX10_got_282 (by decide) ?_
                                    refine lv_iload_n hx hb dX10_got_283 rfl (lv_at hl 2 rfl) ?_
                                    refine lv_imul hx hb dX10_got_284 ?_
                                    refine lv_iload_n hx hb dX10_got_285 rfl (lv_at hl 3 rfl) ?_
                                    refine lv_iadd hx hb dX10_got_286 ?_
                                    obtain ⟨z49, e49, hf⟩ := ob hf
                                    refine r_iald C hw e49 dX10_got_287 ?_
                                    refine lv_iconst (v := (1 : Int32)) hx hb dX10_got_288 (by decide) ?_
                                    refine lv_iadd hx hb dX10_got_289 ?_
                                    refine va_mmax hx hb (by rw [C.2.2.1]; exact hl.1.symm) C.2.2.2.1 (C.2.2.2.2.1 _ w1197) (C.2.2.2.2.1 _ w569) (C.2.2.2.2.1 _ w18) (C.2.2.2.2.1 _ w570) (Nat.le_of_ble_eq_true rfl) (Nat.le_of_ble_eq_true rfl) (by show _ ≤ 0; omega) (by show _ ≤ 0; omega) dX10_got_290 ?_
                                    refine W.eq (g2 := F0 m 293 ls [.int (mx (z46 + (1 : Int32)) (z49 + (1 : Int32))), .int (((5 : Int32) * x2) + x3), .ref a43]) rfl ?_
                                    obtain ⟨h50, e50, hf⟩ := ob hf
                                    refine r_iast C hw e50 dX10_got_293 (fun H locs hw => ?_)
                                    exact bX10_got_294 C hn _ _ _ _ _ hf _ _ _ _ _ (by omega) (by omega) hw (lv_sub hl [0, 2, 3] rfl)
                  · have hf := ie hf n61
                    refine lv_tableOut (tgt := 303) hx hb dX10_got_122 (tsw_out (x := z10) 0 [(0 : Int32), (1 : Int32), (2 : Int32), (3 : Int32), (4 : Int32)] (by decide) (List.forall_mem_cons.mpr ⟨n57, List.forall_mem_cons.mpr ⟨n58, List.forall_mem_cons.mpr ⟨n59, List.forall_mem_cons.mpr ⟨n60, List.forall_mem_cons.mpr ⟨n61, fun _ h9 => absurd h9 List.not_mem_nil⟩⟩⟩⟩⟩)) (by decide) ?_
                    refine lv_aload_n hx hb dX10_got_303 rfl (lv_at hl 0 rfl) ?_
                    refine lv_iload_n hx hb dX10_got_304 rfl (lv_at hl 1 rfl) ?_
                    refine lv_iload_n hx hb dX10_got_305 rfl (lv_at hl 2 rfl) ?_
                    refine lv_iload_n hx hb dX10_got_306 rfl (lv_at hl 3 rfl) ?_
                    obtain ⟨kb11, hf⟩ := ig hf
                    obtain ⟨z11, h11, e11, hf⟩ := ob2 hf
                    refine r_callV C hw (mX10_installs e11) kXX10_installs ck10 rfl kb11 w1202 w1204 v51 ⟨Nat.le_of_ble_eq_true rfl, Nat.le_of_ble_eq_true rfl⟩ rfl hl.1 (rest := []) rfl (Nat.le_of_ble_eq_true rfl) dX10_got_307 (mc := 0) (ms := 0) rfl rfl ⟨by show _ + 0 ≤ 0; omega, by show _ + 0 ≤ 0; omega⟩ (fun H locs hw => ?_)
                    refine W.eq (g2 := F0 m 310 ls []) rfl ?_
                    obtain ⟨rfl, rfl⟩ := sp hf
                    exact r_vret C hw rfl (by omega) (by omega) dX10_got_310
      · have hf := ie hf c7
        refine lv_aload_n hx hb dX10_got_65 rfl (lv_at hl 0 rfl) ?_
        obtain ⟨z62, e62, hf⟩ := ob hf
        refine r_gR C hw e62 ck10 rfl (by decide) w978 dX10_got_66 ?_
        cases z62 with
        | none =>
          have hf := on_n hf
          cases hf
        | some a63 =>
          have hf := on_s hf
          refine W.eq (g2 := F0 m 69 ls [.ref a63]) rfl ?_
          refine lv_iload_n hx hb dX10_got_69 rfl (lv_at hl 1 rfl) ?_
          obtain ⟨z64, e64, hf⟩ := ob hf
          refine r_iald C hw e64 dX10_got_70 ?_
          refine lv_if_ne (tgt := 82) hx hb dX10_got_71 (by decide) (fun c65 => ?_) (fun c65 => ?_)
          · have hf := ie hf c65
            exact bX10_got_82 C hn _ _ _ _ _ _ hf _ _ _ _ _ (by omega) (by omega) hw (lv_sub hl [0, 1, 2, 3] rfl)
          · have hf := ip hf c65
            refine lv_aload_n hx hb dX10_got_74 rfl (lv_at hl 0 rfl) ?_
            refine lv_iconst (v := (1 : Int32)) hx hb dX10_got_75 (by decide) ?_
            refine lv_iload_n hx hb dX10_got_76 rfl (lv_at hl 2 rfl) ?_
            refine lv_iload_n hx hb dX10_got_77 rfl (lv_at hl 3 rfl) ?_
            refine lv_iconst (v := (0 : Int32)) hx hb dX10_got_78 (by decide) ?_
            obtain ⟨kb66, hf⟩ := ig hf
            obtain ⟨z66, h66, e66, hf⟩ := ob2 hf
            refine r_callV C hw (mX10_answer e66) kXX10_answer ck10 rfl kb66 w1164 w1166 v42 ⟨Nat.le_of_ble_eq_true rfl, Nat.le_of_ble_eq_true rfl⟩ rfl hl.1 (rest := []) rfl (Nat.le_of_ble_eq_true rfl) dX10_got_79 (mc := 0) (ms := 0) rfl rfl ⟨by show _ + 0 ≤ 0; omega, by show _ + 0 ≤ 0; omega⟩ (fun H locs hw => ?_)
            refine W.eq (g2 := F0 m 82 ls []) rfl ?_
            exact bX10_got_82 C hn _ _ _ _ _ _ hf _ _ _ _ _ (by omega) (by omega) hw (lv_sub hl [0, 1, 2, 3] rfl)
set_option maxRecDepth 100000 in
set_option maxHeartbeats 4000000 in
theorem bX10_got {D : va_G} {cy : Nat → ClassId} {s0 : Nat} {p : Program} {l : Launch} {e : Env} {s : State} {m : MethodId} {args : Array Value} {below : List Frame} {meth : Method} {c : Code} (C : CX D cy s0 p s m args meth c cX10_got 4 RX10 none) (hn : meth.name = "got") : ∀ (x0 : Nat) (x1 : Int32) (x2 : Int32) (x3 : Int32) (h : Hp) (r : Unit × Hp), fX10_got x0 x1 x2 x3 h = some r → pX10_got D cy s0 p l e s m args below meth c r x0 x1 x2 x3 h := by
  intro x0 x1 x2 x3 h ⟨rv, rh⟩ hf H locs ls cells slots hc hs hw hl
  unfold fX10_got at hf
  have hx := C.1
  have hb := C.2.1
  refine lv_aload_n hx hb dX10_got_0 rfl (lv_at hl 0 rfl) ?_
  obtain ⟨z1, e1, hf⟩ := ob hf
  refine r_gR C hw e1 ck10 rfl (by decide) w981 dX10_got_1 ?_
  cases z1 with
  | none =>
    have hf := on_n hf
    cases hf
  | some a2 =>
    have hf := on_s hf
    refine W.eq (g2 := F0 m 4 ls [.ref a2]) rfl ?_
    refine lv_iload_n hx hb dX10_got_4 rfl (lv_at hl 1 rfl) ?_
    obtain ⟨z3, e3, hf⟩ := ob hf
    refine r_iald C hw e3 dX10_got_5 ?_
    refine lv_aload_n hx hb dX10_got_6 rfl (lv_at hl 0 rfl) ?_
    obtain ⟨z4, e4, hf⟩ := ob hf
    refine r_gR C hw e4 ck10 rfl (by decide) w965 dX10_got_7 ?_
    cases z4 with
    | none =>
      have hf := on_n hf
      cases hf
    | some a5 =>
      have hf := on_s hf
      refine W.eq (g2 := F0 m 10 ls [.ref a5, .int z3]) rfl ?_
      refine lv_iload_n hx hb dX10_got_10 rfl (lv_at hl 2 rfl) ?_
      obtain ⟨z6, e6, hf⟩ := ob hf
      refine r_iald C hw e6 dX10_got_11 ?_
      refine lv_icmp_le (tgt := 50) hx hb dX10_got_12 (by decide) (fun c7 => ?_) (fun c7 => ?_)
      · have hf := ip hf c7
        exact bX10_got_50 C hn _ _ _ _ _ _ hf _ _ _ _ _ (by omega) (by omega) hw (lv_sub hl [0, 1, 2, 3] rfl)
      · have hf := ie hf c7
        refine lv_aload_n hx hb dX10_got_15 rfl (lv_at hl 0 rfl) ?_
        refine lv_iload_n hx hb dX10_got_16 rfl (lv_at hl 2 rfl) ?_
        obtain ⟨kb8, hf⟩ := ig hf
        obtain ⟨z8, h8, e8, hf⟩ := ob2 hf
        refine r_callV C hw (mX10_record e8) kXX10_record ck10 rfl kb8 w1136 w1138 v36 ⟨Nat.le_of_ble_eq_true rfl, Nat.le_of_ble_eq_true rfl⟩ rfl hl.1 (rest := []) rfl (Nat.le_of_ble_eq_true rfl) dX10_got_17 (mc := 0) (ms := 0) rfl rfl ⟨by show _ + 0 ≤ 0; omega, by show _ + 0 ≤ 0; omega⟩ (fun H locs hw => ?_)
        refine W.eq (g2 := F0 m 20 ls [.int z8]) rfl ?_
        refine lv_if_ne (tgt := 24) hx hb dX10_got_20 (by decide) (fun c9 => ?_) (fun c9 => ?_)
        · have hf := ie hf c9
          refine lv_aload_n hx hb dX10_got_24 rfl (lv_at hl 0 rfl) ?_
          obtain ⟨z10, e10, hf⟩ := ob hf
          refine r_gR C hw e10 ck10 rfl (by decide) w965 dX10_got_25 ?_
          cases z10 with
          | none =>
            have hf := on_n hf
            cases hf
          | some a11 =>
            have hf := on_s hf
            refine W.eq (g2 := F0 m 28 ls [.ref a11]) rfl ?_
            refine lv_iload_n hx hb dX10_got_28 rfl (lv_at hl 2 rfl) ?_
            refine lv_aload_n hx hb dX10_got_29 rfl (lv_at hl 0 rfl) ?_
            obtain ⟨z12, e12, hf⟩ := ob hf
            refine r_gR C hw e12 ck10 rfl (by decide) w981 dX10_got_30 ?_
            cases z12 with
            | none =>
              have hf := on_n hf
              cases hf
            | some a13 =>
              have hf := on_s hf
              refine W.eq (g2 := F0 m 33 ls [.ref a13, .int x2, .ref a11]) rfl ?_
              refine lv_iload_n hx hb dX10_got_33 rfl (lv_at hl 1 rfl) ?_
              obtain ⟨z14, e14, hf⟩ := ob hf
              refine r_iald C hw e14 dX10_got_34 ?_
              obtain ⟨h15, e15, hf⟩ := ob hf
              refine r_iast C hw e15 dX10_got_35 (fun H locs hw => ?_)
              refine lv_aload_n hx hb dX10_got_36 rfl (lv_at hl 0 rfl) ?_
              obtain ⟨z16, e16, hf⟩ := ob hf
              refine r_gR C hw e16 ck10 rfl (by decide) w966 dX10_got_37 ?_
              cases z16 with
              | none =>
                have hf := on_n hf
                cases hf
              | some a17 =>
                have hf := on_s hf
                refine W.eq (g2 := F0 m 40 ls [.ref a17]) rfl ?_
                refine lv_iload_n hx hb dX10_got_40 rfl (lv_at hl 2 rfl) ?_
                refine lv_iconst (v := (-1 : Int32)) hx hb dX10_got_41 (by decide) ?_
                obtain ⟨h18, e18, hf⟩ := ob hf
                refine r_iast C hw e18 dX10_got_42 (fun H locs hw => ?_)
                refine lv_aload_n hx hb dX10_got_43 rfl (lv_at hl 0 rfl) ?_
                obtain ⟨z19, e19, hf⟩ := ob hf
                refine r_gR C hw e19 ck10 rfl (by decide) w971 dX10_got_44 ?_
                cases z19 with
                | none =>
                  have hf := on_n hf
                  cases hf
                | some a20 =>
                  have hf := on_s hf
                  refine W.eq (g2 := F0 m 47 ls [.ref a20]) rfl ?_
                  refine lv_iload_n hx hb dX10_got_47 rfl (lv_at hl 2 rfl) ?_
                  refine lv_iconst (v := (0 : Int32)) hx hb dX10_got_48 (by decide) ?_
                  obtain ⟨h21, e21, hf⟩ := ob hf
                  refine r_iast C hw e21 dX10_got_49 (fun H locs hw => ?_)
                  exact bX10_got_50 C hn _ _ _ _ _ _ hf _ _ _ _ _ (by omega) (by omega) hw (lv_sub hl [0, 1, 2, 3] rfl)
        · have hf := ip hf c9
          obtain ⟨rfl, rfl⟩ := sp hf
          exact r_vret C hw rfl (by omega) (by omega) dX10_got_23
theorem kXX10_got : MK yX10_got cX10_got 4 none 3 := ⟨w1163, w8, by decide +kernel⟩
theorem mX10_got {D : va_G} {cy : Nat → ClassId} {s0 : Nat} {l : Launch} {x0 : Nat} {x1 : Int32} {x2 : Int32} {x3 : Int32} {h : Hp} {v : Unit} {h1 : Hp} (hf : fX10_got x0 x1 x2 x3 h = some (v, h1)) : MT D cy s0 l yX10_got cX10_got 4 none rX10_got [.ref x0, .int x1, .int x2, .int x3] h none h1 := by
  refine MT.of (by decide +kernel) (Nat.le_of_ble_eq_true rfl) ?_
  intro p e s m below meth c H locs ls C hn hw hl
  exact bX10_got C hn _ _ _ _ _ _ hf _ _ _ _ _ (Nat.le_of_ble_eq_true rfl) (Nat.le_of_ble_eq_true rfl) hw hl
