def fX10_digest_165_body (k165 : Nat → Int64 → Int32 → Hp → Option (Int64 × Hp)) (x0 : Nat) (x2 : Int64) (x4 : Int32) (h : Hp) : Option (Int64 × Hp) :=
  bd (gI h 10 47 x0) fun z1 => if z1 ≤ x4 then (bd (gI h 10 40 x0) fun z3 => some ((((31 : Int64) * x2) + (z3.toInt64)), h)) else (if hK h x0 = some (10, 0) then (bd2 (fX10_coded x0 x4 h) fun z4 h4 => k165 x0 (((31 : Int64) * x2) + z4) (x4 + (1 : Int32)) h4) else none)
def fX10_digest_165 : Nat → Nat → Int64 → Int32 → Hp → Option (Int64 × Hp)
  | 0 => fun _ _ _ _ => none
  | n + 1 => fX10_digest_165_body (fX10_digest_165 n)
def fX10_digest_153 (k56 : Nat → Int64 → Int32 → Hp → Option (Int64 × Hp)) (x0 : Nat) (x2 : Int64) (x4 : Int32) (h : Hp) : Option (Int64 × Hp) :=
  k56 x0 x2 (x4 + (1 : Int32)) h
def fX10_digest_56_body (k56 : Nat → Int64 → Int32 → Hp → Option (Int64 × Hp)) (x0 : Nat) (x2 : Int64) (x4 : Int32) (h : Hp) : Option (Int64 × Hp) :=
  if (64 : Int32) ≤ x4 then (if hK h x0 = some (10, 0) then (bd2 (fX10_firstEvent x0 h) fun z2 h2 => fX10_digest_165 LF x0 x2 z2 h2) else none) else (bd (gR h 10 33 x0) fun z3 => onR z3 (none) fun a4 => bd (ldI h 11 a4 x4) fun z5 => if z5 = 0 then (fX10_digest_153 k56 x0 x2 x4 h) else (bd (gR h 10 36 x0) fun z7 => onR z7 (none) fun a8 => bd (ldI h 11 a8 x4) fun z9 => bd (gR h 10 33 x0) fun z10 => onR z10 (none) fun a11 => bd (ldI h 11 a11 x4) fun z12 => bd (gR h 10 34 x0) fun z13 => onR z13 (none) fun a14 => bd (ldI h 11 a14 x4) fun z15 => bd (gR h 10 35 x0) fun z16 => onR z16 (none) fun a17 => bd (ldI h 11 a17 x4) fun z18 => bd (gR h 10 37 x0) fun z19 => onR z19 (none) fun a20 => bd (ldI h 11 a20 x4) fun z21 => fX10_digest_153 k56 x0 (((31 : Int64) * (((31 : Int64) * (((31 : Int64) * (((31 : Int64) * (((31 : Int64) * (((31 : Int64) * x2) + (x4.toInt64))) + (z9.toInt64))) + (z12.toInt64))) + (z15.toInt64))) + (z18.toInt64))) + (z21.toInt64)) x4 h))
def fX10_digest_56 : Nat → Nat → Int64 → Int32 → Hp → Option (Int64 × Hp)
  | 0 => fun _ _ _ _ => none
  | n + 1 => fX10_digest_56_body (fX10_digest_56 n)
def fX10_digest_35 (x0 : Nat) (x1 : Int32) (y0 : Int32) (y1 : Nat) (h : Hp) : Option (Int64 × Hp) :=
  if hK h y1 = some (10, 0) then (bd2 (fX10_bad y1 y0 (2 : Int32) h) fun z1 h1 => if z1 = 0 then (if hK h1 x0 = some (10, 0) then (bd2 (fX10_work x0 x1 h1) fun _ h3 => fX10_digest_56 LF x0 (7 : Int64) (0 : Int32) h3) else none) else (some ((0 : Int64), h1))) else none
def fX10_digest_13 (x0 : Nat) (x1 : Int32) (y0 : Int32) (y1 : Nat) (h : Hp) : Option (Int64 × Hp) :=
  if hK h y1 = some (10, 0) then (bd2 (fX10_bad y1 y0 (1 : Int32) h) fun z1 h1 => if z1 = 0 then (bd (gR h1 10 1 x0) fun z3 => onR z3 (none) fun a4 => bd (ldI h1 13 a4 x1) fun z5 => if z5 = 0 then (fX10_digest_35 x0 x1 (1 : Int32) x0 h1) else (fX10_digest_35 x0 x1 (0 : Int32) x0 h1)) else (some ((0 : Int64), h1))) else none
def fX10_digest (x0 : Nat) (x1 : Int32) (h : Hp) : Option (Int64 × Hp) :=
  bd2 (fX10_isNode x1 h) fun z1 h1 => if z1 = 0 then (fX10_digest_13 x0 x1 (1 : Int32) x0 h1) else (fX10_digest_13 x0 x1 (0 : Int32) x0 h1)
def fX10_entry_42  (h : Hp) : Option (Int32 × Hp) :=
  some ((-1 : Int32), h)
def fX10_entry_13 (x0 : Nat) (x1 : Int32) (x2 : Int32) (y0 : Int32) (y1 : Nat) (h : Hp) : Option (Int32 × Hp) :=
  if hK h y1 = some (10, 0) then (bd2 (fX10_bad y1 y0 (1 : Int32) h) fun z1 h1 => if z1 = 0 then (bd (gR h1 10 4 x0) fun z3 => onR z3 (none) fun a4 => bd (ldI h1 11 a4 x1) fun z5 => if x2 < z5 then (fX10_entry_42 h1) else (bd (gR h1 10 5 x0) fun z7 => onR z7 (none) fun a8 => bd (ldI h1 11 a8 x1) fun z9 => if x2 ≤ z9 then (if hK h1 x0 = some (10, 0) then (bd2 (fX10_termAt x0 x1 x2 h1) fun z11 h11 => some (z11, h11)) else none) else (fX10_entry_42 h1))) else (some ((0 : Int32), h1))) else none
def fX10_entry (x0 : Nat) (x1 : Int32) (x2 : Int32) (h : Hp) : Option (Int32 × Hp) :=
  bd2 (fX10_isNode x1 h) fun z1 h1 => if z1 = 0 then (fX10_entry_13 x0 x1 x2 (1 : Int32) x0 h1) else (fX10_entry_13 x0 x1 x2 (0 : Int32) x0 h1)
def fX10_event__122 (x0 : Nat) (x3 : Int32) (x4 : Int32) (y0 : Int32) (y1 : Nat) (h : Hp) : Option (Int64 × Hp) :=
  if hK h y1 = some (10, 0) then (bd2 (fX10_bad y1 y0 (1 : Int32) h) fun z1 h1 => if z1 = 0 then (if hK h1 x0 = some (10, 0) then (bd2 (fX10_coded x0 (x4 + x3) h1) fun z3 h3 => some (z3, h3)) else none) else (some ((0 : Int64), h1))) else none
def fX10_event__117 (x0 : Nat) (x3 : Int32) (x4 : Int32) (y0 : Nat) (h : Hp) : Option (Int64 × Hp) :=
  fX10_event__122 x0 x3 x4 (1 : Int32) y0 h
def fX10_event__101 (x0 : Nat) (x3 : Int32) (x4 : Int32) (h : Hp) : Option (Int64 × Hp) :=
  if x3 < 0 then (fX10_event__117 x0 x3 x4 x0 h) else (bd (gI h 10 47 x0) fun z2 => if x3 < (z2 - x4) then (fX10_event__122 x0 x3 x4 (0 : Int32) x0 h) else (fX10_event__117 x0 x3 x4 x0 h))
def fX10_event__75_body (k75 : Nat → Int32 → Int32 → Int32 → Hp → Option (Int64 × Hp)) (x0 : Nat) (x2 : Int32) (x3 : Int32) (x4 : Int32) (h : Hp) : Option (Int64 × Hp) :=
  bd (gI h 10 47 x0) fun z1 => if z1 ≤ x4 then (fX10_event__101 x0 x3 x4 h) else (bd (gR h 10 43 x0) fun z3 => onR z3 (none) fun a4 => bd (ldI h 11 a4 x4) fun z5 => if x2 ≤ z5 then (fX10_event__101 x0 x3 x4 h) else (k75 x0 x2 x3 (x4 + (1 : Int32)) h))
def fX10_event__75 : Nat → Nat → Int32 → Int32 → Int32 → Hp → Option (Int64 × Hp)
  | 0 => fun _ _ _ _ _ => none
  | n + 1 => fX10_event__75_body (fX10_event__75 n)
def fX10_event__63 (x0 : Nat) (x2 : Int32) (x3 : Int32) (y0 : Int32) (y1 : Nat) (h : Hp) : Option (Int64 × Hp) :=
  if hK h y1 = some (10, 0) then (bd2 (fX10_bad y1 y0 (3 : Int32) h) fun z1 h1 => if z1 = 0 then (fX10_event__75 LF x0 x2 x3 (0 : Int32) h1) else (some ((0 : Int64), h1))) else none
def fX10_event__35 (x0 : Nat) (x1 : Int32) (x2 : Int32) (x3 : Int32) (y0 : Int32) (y1 : Nat) (h : Hp) : Option (Int64 × Hp) :=
  if hK h y1 = some (10, 0) then (bd2 (fX10_bad y1 y0 (2 : Int32) h) fun z1 h1 => if z1 = 0 then (if hK h1 x0 = some (10, 0) then (bd2 (fX10_work x0 x1 h1) fun _ h3 => bd (gI h3 10 42 x0) fun z4 => if z4 < x2 then (fX10_event__63 x0 x2 x3 (0 : Int32) x0 h3) else (fX10_event__63 x0 x2 x3 (1 : Int32) x0 h3)) else none) else (some ((0 : Int64), h1))) else none
def fX10_event__13 (x0 : Nat) (x1 : Int32) (x2 : Int32) (x3 : Int32) (y0 : Int32) (y1 : Nat) (h : Hp) : Option (Int64 × Hp) :=
  if hK h y1 = some (10, 0) then (bd2 (fX10_bad y1 y0 (1 : Int32) h) fun z1 h1 => if z1 = 0 then (bd (gR h1 10 1 x0) fun z3 => onR z3 (none) fun a4 => bd (ldI h1 13 a4 x1) fun z5 => if z5 = 0 then (fX10_event__35 x0 x1 x2 x3 (1 : Int32) x0 h1) else (fX10_event__35 x0 x1 x2 x3 (0 : Int32) x0 h1)) else (some ((0 : Int64), h1))) else none
def fX10_event_ (x0 : Nat) (x1 : Int32) (x2 : Int32) (x3 : Int32) (h : Hp) : Option (Int64 × Hp) :=
  bd2 (fX10_isNode x1 h) fun z1 h1 => if z1 = 0 then (fX10_event__13 x0 x1 x2 x3 (1 : Int32) x0 h1) else (fX10_event__13 x0 x1 x2 x3 (0 : Int32) x0 h1)
def fX10_expire_165 (k104 : Nat → Int32 → Int32 → Int32 → Hp → Option (Int32 × Hp)) (x0 : Nat) (x1 : Int32) (x2 : Int32) (x3 : Int32) (h : Hp) : Option (Int32 × Hp) :=
  k104 x0 x1 x2 (x3 + (1 : Int32)) h
def fX10_expire_104_body (k104 : Nat → Int32 → Int32 → Int32 → Hp → Option (Int32 × Hp)) (x0 : Nat) (x1 : Int32) (x2 : Int32) (x3 : Int32) (h : Hp) : Option (Int32 × Hp) :=
  if (5 : Int32) ≤ x3 then (bd (gI h 10 24 x0) fun z2 => some ((z2 - x2), h)) else (if x3 = x1 then (fX10_expire_165 k104 x0 x1 x2 x3 h) else (if hK h x0 = some (10, 0) then (bd2 (fX10_made x0 (0 : Int32) x1 x3 h) fun z4 h4 => if 0 ≤ z4 then (bd (gR h4 10 19 x0) fun z6 => onR z6 (none) fun a7 => bd (gR h4 10 5 x0) fun z8 => onR z8 (none) fun a9 => bd (ldI h4 11 a9 x1) fun z10 => bd (stI h4 11 a7 z4 z10) fun h11 => bd (gR h11 10 20 x0) fun z12 => onR z12 (none) fun a13 => bd (gR h11 10 5 x0) fun z14 => onR z14 (none) fun a15 => bd (ldI h11 11 a15 x1) fun z16 => if hK h11 x0 = some (10, 0) then (bd2 (fX10_termAt x0 x1 z16 h11) fun z17 h17 => bd (stI h17 11 a13 z4 z17) fun h18 => fX10_expire_165 k104 x0 x1 x2 x3 h18) else none) else (fX10_expire_165 k104 x0 x1 x2 x3 h4)) else none))
def fX10_expire_104 : Nat → Nat → Int32 → Int32 → Int32 → Hp → Option (Int32 × Hp)
  | 0 => fun _ _ _ _ _ => none
  | n + 1 => fX10_expire_104_body (fX10_expire_104 n)
def fX10_expire_45 (x0 : Nat) (x1 : Int32) (y0 : Int32) (y1 : Nat) (h : Hp) : Option (Int32 × Hp) :=
  if hK h y1 = some (10, 0) then (bd2 (fX10_bad y1 y0 (2 : Int32) h) fun z1 h1 => if z1 = 0 then (bd (gI h1 10 24 x0) fun z3 => if hK h1 x0 = some (10, 0) then (bd2 (fX10_record x0 x1 h1) fun z4 h4 => if z4 = 0 then (some ((0 : Int32), h4)) else (bd (gR h4 10 2 x0) fun z6 => onR z6 (none) fun a7 => bd (ldI h4 11 a7 x1) fun z8 => bd (stI h4 11 a7 x1 (z8 + (1 : Int32))) fun h9 => bd (gR h9 10 3 x0) fun z10 => onR z10 (none) fun a11 => bd (stI h9 11 a11 x1 x1) fun h12 => bd (gR h12 10 8 x0) fun z13 => onR z13 (none) fun a14 => bd (stI h12 11 a14 x1 (1 : Int32)) fun h15 => bd (gR h15 10 9 x0) fun z16 => onR z16 (none) fun a17 => bd (stI h15 11 a17 x1 ((1 : Int32) <<< (x1 &&& 31))) fun h18 => fX10_expire_104 LF x0 x1 z3 (0 : Int32) h18)) else none) else (some ((0 : Int32), h1))) else none
def fX10_expire_40 (x0 : Nat) (x1 : Int32) (y0 : Nat) (h : Hp) : Option (Int32 × Hp) :=
  fX10_expire_45 x0 x1 (1 : Int32) y0 h
def fX10_expire_13 (x0 : Nat) (x1 : Int32) (y0 : Int32) (y1 : Nat) (h : Hp) : Option (Int32 × Hp) :=
  if hK h y1 = some (10, 0) then (bd2 (fX10_bad y1 y0 (1 : Int32) h) fun z1 h1 => if z1 = 0 then (bd (gR h1 10 1 x0) fun z3 => onR z3 (none) fun a4 => bd (ldI h1 13 a4 x1) fun z5 => if z5 = 0 then (fX10_expire_40 x0 x1 x0 h1) else (bd (gR h1 10 8 x0) fun z7 => onR z7 (none) fun a8 => bd (ldI h1 11 a8 x1) fun z9 => if z9 = (2 : Int32) then (fX10_expire_40 x0 x1 x0 h1) else (fX10_expire_45 x0 x1 (0 : Int32) x0 h1))) else (some ((0 : Int32), h1))) else none
def fX10_expire (x0 : Nat) (x1 : Int32) (h : Hp) : Option (Int32 × Hp) :=
  bd2 (fX10_isNode x1 h) fun z1 h1 => if z1 = 0 then (fX10_expire_13 x0 x1 (1 : Int32) x0 h1) else (fX10_expire_13 x0 x1 (0 : Int32) x0 h1)
def fX10_init_323_body (k323 : Nat → Int32 → Hp → Option (Unit × Hp)) (x0 : Nat) (x1 : Int32) (h : Hp) : Option (Unit × Hp) :=
  if (5 : Int32) ≤ x1 then (some ((), h)) else (bd (gR h 10 1 x0) fun z2 => onR z2 (none) fun a3 => bd (stZ h 13 a3 x1 (1 : Int32)) fun h4 => bd (gR h4 10 3 x0) fun z5 => onR z5 (none) fun a6 => bd (stI h4 11 a6 x1 (-1 : Int32)) fun h7 => bd (gR h7 10 10 x0) fun z8 => onR z8 (none) fun a9 => bd (stI h7 11 a9 x1 (-1 : Int32)) fun h10 => k323 x0 (x1 + (1 : Int32)) h10)
def fX10_init_323 : Nat → Nat → Int32 → Hp → Option (Unit × Hp)
  | 0 => fun _ _ _ => none
  | n + 1 => fX10_init_323_body (fX10_init_323 n)
def fX10_init (x0 : Nat) (h : Hp) : Option (Unit × Hp) :=
  bd (mkA h 13 (5 : Int32) 5) fun h1 => bd (pR h1 10 1 x0 (some (hZ h))) fun h2 => bd (mkA h2 11 (5 : Int32) 5) fun h3 => bd (pR h3 10 2 x0 (some (hZ h2))) fun h4 => bd (mkA h4 11 (5 : Int32) 5) fun h5 => bd (pR h5 10 3 x0 (some (hZ h4))) fun h6 => bd (mkA h6 11 (5 : Int32) 5) fun h7 => bd (pR h7 10 4 x0 (some (hZ h6))) fun h8 => bd (mkA h8 11 (5 : Int32) 5) fun h9 => bd (pR h9 10 5 x0 (some (hZ h8))) fun h10 => bd (mkA h10 11 (5 : Int32) 5) fun h11 => bd (pR h11 10 6 x0 (some (hZ h10))) fun h12 => bd (mkA h12 11 (5 : Int32) 5) fun h13 => bd (pR h13 10 7 x0 (some (hZ h12))) fun h14 => bd (mkA h14 11 (5 : Int32) 5) fun h15 => bd (pR h15 10 8 x0 (some (hZ h14))) fun h16 => bd (mkA h16 11 (5 : Int32) 5) fun h17 => bd (pR h17 10 9 x0 (some (hZ h16))) fun h18 => bd (mkA h18 11 (5 : Int32) 5) fun h19 => bd (pR h19 10 10 x0 (some (hZ h18))) fun h20 => bd (mkA h20 11 (25 : Int32) 25) fun h21 => bd (pR h21 10 11 x0 (some (hZ h20))) fun h22 => bd (mkA h22 11 (25 : Int32) 25) fun h23 => bd (pR h23 10 12 x0 (some (hZ h22))) fun h24 => bd (mkA h24 11 (48040 : Int32) 48040) fun h25 => bd (pR h25 10 13 x0 (some (hZ h24))) fun h26 => bd (mkA h26 11 (5 : Int32) 5) fun h27 => bd (pR h27 10 14 x0 (some (hZ h26))) fun h28 => bd (mkA h28 11 (3000 : Int32) 3000) fun h29 => bd (pR h29 10 15 x0 (some (hZ h28))) fun h30 => bd (mkA h30 11 (3000 : Int32) 3000) fun h31 => bd (pR h31 10 16 x0 (some (hZ h30))) fun h32 => bd (mkA h32 11 (3000 : Int32) 3000) fun h33 => bd (pR h33 10 17 x0 (some (hZ h32))) fun h34 => bd (mkA h34 11 (3000 : Int32) 3000) fun h35 => bd (pR h35 10 18 x0 (some (hZ h34))) fun h36 => bd (mkA h36 11 (3000 : Int32) 3000) fun h37 => bd (pR h37 10 19 x0 (some (hZ h36))) fun h38 => bd (mkA h38 11 (3000 : Int32) 3000) fun h39 => bd (pR h39 10 20 x0 (some (hZ h38))) fun h40 => bd (mkA h40 11 (3000 : Int32) 3000) fun h41 => bd (pR h41 10 21 x0 (some (hZ h40))) fun h42 => bd (mkA h42 11 (3000 : Int32) 3000) fun h43 => bd (pR h43 10 22 x0 (some (hZ h42))) fun h44 => bd (mkA h44 11 (96000 : Int32) 96000) fun h45 => bd (pR h45 10 23 x0 (some (hZ h44))) fun h46 => bd (mkA h46 11 (576480 : Int32) 576480) fun h47 => bd (pR h47 10 25 x0 (some (hZ h46))) fun h48 => bd (mkA h48 11 (3000 : Int32) 3000) fun h49 => bd (pR h49 10 26 x0 (some (hZ h48))) fun h50 => bd (mkA h50 11 (8 : Int32) 8) fun h51 => bd (pR h51 10 32 x0 (some (hZ h50))) fun h52 => bd (mkA h52 11 (64 : Int32) 64) fun h53 => bd (pR h53 10 33 x0 (some (hZ h52))) fun h54 => bd (mkA h54 11 (64 : Int32) 64) fun h55 => bd (pR h55 10 34 x0 (some (hZ h54))) fun h56 => bd (mkA h56 11 (64 : Int32) 64) fun h57 => bd (pR h57 10 35 x0 (some (hZ h56))) fun h58 => bd (mkA h58 11 (64 : Int32) 64) fun h59 => bd (pR h59 10 36 x0 (some (hZ h58))) fun h60 => bd (mkA h60 11 (64 : Int32) 64) fun h61 => bd (pR h61 10 37 x0 (some (hZ h60))) fun h62 => bd (mkA h62 13 (9 : Int32) 9) fun h63 => bd (pR h63 10 38 x0 (some (hZ h62))) fun h64 => bd (mkA h64 11 (9 : Int32) 9) fun h65 => bd (pR h65 10 39 x0 (some (hZ h64))) fun h66 => bd (mkA h66 11 (5000 : Int32) 5000) fun h67 => bd (pR h67 10 43 x0 (some (hZ h66))) fun h68 => bd (mkA h68 11 (5000 : Int32) 5000) fun h69 => bd (pR h69 10 44 x0 (some (hZ h68))) fun h70 => bd (mkA h70 11 (5000 : Int32) 5000) fun h71 => bd (pR h71 10 45 x0 (some (hZ h70))) fun h72 => bd (mkA h72 13 (5000 : Int32) 5000) fun h73 => bd (pR h73 10 46 x0 (some (hZ h72))) fun h74 => bd (mkA h74 11 (1201 : Int32) 1201) fun h75 => bd (pR h75 10 48 x0 (some (hZ h74))) fun h76 => bd (pI h76 10 49 x0 (-1 : Int32)) fun h77 => bd (pI h77 10 50 x0 (-1 : Int32)) fun h78 => fX10_init_323 LF x0 (0 : Int32) h78
def fX10_isKey (x0 : Int32) (h : Hp) : Option (Int32 × Hp) :=
  if x0 < 0 then (some ((0 : Int32), h)) else (if (64 : Int32) ≤ x0 then (some ((0 : Int32), h)) else (some ((1 : Int32), h)))
def fX10_isRight_165  (h : Hp) : Option (Int32 × Hp) :=
  some ((1 : Int32), h)
def fX10_isRight_136 (x2 : Int32) (h : Hp) : Option (Int32 × Hp) :=
  if x2 < (1 : Int32) then (some ((0 : Int32), h)) else (if (8 : Int32) < x2 then (some ((0 : Int32), h)) else (some ((1 : Int32), h)))
def fX10_isRight (x0 : Nat) (x1 : Int32) (x2 : Int32) (x3 : Int32) (h : Hp) : Option (Int32 × Hp) :=
  if x1 = (1 : Int32) then (bd2 (fX10_isKey x2 h) fun z3 h3 => if z3 = 0 then (some ((0 : Int32), h3)) else (bd (gI h3 10 28 x0) fun z5 => if z5 < 0 then (some ((0 : Int32), h3)) else (bd (gI h3 10 28 x0) fun z7 => if (8 : Int32) < z7 then (some ((0 : Int32), h3)) else (some ((1 : Int32), h3))))) else (if x1 = (2 : Int32) then (bd2 (fX10_isKey x2 h) fun z9 h9 => if z9 = 0 then (some ((0 : Int32), h9)) else (bd2 (fX10_isKey x3 h9) fun z11 h11 => if z11 = 0 then (some ((0 : Int32), h11)) else (some ((1 : Int32), h11)))) else (if x1 = (3 : Int32) then (bd2 (fX10_isKey x2 h) fun z13 h13 => if z13 = 0 then (some ((0 : Int32), h13)) else (bd (gI h13 10 30 x0) fun z15 => bd2 (fX10_isKey z15 h13) fun z16 h16 => if z16 = 0 then (some ((0 : Int32), h16)) else (if x3 < 0 then (some ((0 : Int32), h16)) else (if (3 : Int32) < x3 then (some ((0 : Int32), h16)) else (bd (gI h16 10 28 x0) fun z20 => if z20 < 0 then (some ((0 : Int32), h16)) else (bd (gI h16 10 28 x0) fun z22 => if (2 : Int32) < z22 then (some ((0 : Int32), h16)) else (some ((1 : Int32), h16)))))))) else (if x1 = (4 : Int32) then (fX10_isRight_136 x2 h) else (if x1 = (5 : Int32) then (fX10_isRight_136 x2 h) else (if x1 = (6 : Int32) then (fX10_isRight_136 x2 h) else (if x1 = (7 : Int32) then (fX10_isRight_165 h) else (if x1 = (8 : Int32) then (fX10_isRight_165 h) else (some ((0 : Int32), h)))))))))
def fX10_key_64 (x0 : Nat) (x1 : Int32) (x2 : Int32) (x3 : Int32) (y0 : Int32) (y1 : Nat) (h : Hp) : Option (Int32 × Hp) :=
  if hK h y1 = some (10, 0) then (bd2 (fX10_bad y1 y0 (3 : Int32) h) fun z1 h1 => if z1 = 0 then (if hK h1 x0 = some (10, 0) then (bd2 (fX10_work x0 x1 h1) fun _ h3 => if x3 = (4 : Int32) then (bd (gR h3 10 37 x0) fun z6 => onR z6 (none) fun a7 => bd (ldI h3 11 a7 x2) fun z8 => some (z8, h3)) else (if hK h3 x0 = some (10, 0) then (bd2 (fX10_says x0 x2 x3 h3) fun z5 h5 => some (z5, h5)) else none)) else none) else (some ((0 : Int32), h1))) else none
def fX10_key_59 (x0 : Nat) (x1 : Int32) (x2 : Int32) (x3 : Int32) (y0 : Nat) (h : Hp) : Option (Int32 × Hp) :=
  fX10_key_64 x0 x1 x2 x3 (1 : Int32) y0 h
def fX10_key_42 (x0 : Nat) (x1 : Int32) (x2 : Int32) (x3 : Int32) (y0 : Int32) (y1 : Nat) (h : Hp) : Option (Int32 × Hp) :=
  if hK h y1 = some (10, 0) then (bd2 (fX10_bad y1 y0 (2 : Int32) h) fun z1 h1 => if z1 = 0 then (if x3 < 0 then (fX10_key_59 x0 x1 x2 x3 x0 h1) else (if x3 ≤ (4 : Int32) then (fX10_key_64 x0 x1 x2 x3 (0 : Int32) x0 h1) else (fX10_key_59 x0 x1 x2 x3 x0 h1))) else (some ((0 : Int32), h1))) else none
def fX10_key_20 (x0 : Nat) (x1 : Int32) (x2 : Int32) (x3 : Int32) (y0 : Int32) (y1 : Nat) (h : Hp) : Option (Int32 × Hp) :=
  if hK h y1 = some (10, 0) then (bd2 (fX10_bad y1 y0 (1 : Int32) h) fun z1 h1 => if z1 = 0 then (bd (gR h1 10 1 x0) fun z3 => onR z3 (none) fun a4 => bd (ldI h1 13 a4 x1) fun z5 => if z5 = 0 then (fX10_key_42 x0 x1 x2 x3 (1 : Int32) x0 h1) else (fX10_key_42 x0 x1 x2 x3 (0 : Int32) x0 h1)) else (some ((0 : Int32), h1))) else none
def fX10_key_15 (x0 : Nat) (x1 : Int32) (x2 : Int32) (x3 : Int32) (y0 : Nat) (h : Hp) : Option (Int32 × Hp) :=
  fX10_key_20 x0 x1 x2 x3 (1 : Int32) y0 h
def fX10_key (x0 : Nat) (x1 : Int32) (x2 : Int32) (x3 : Int32) (h : Hp) : Option (Int32 × Hp) :=
  bd2 (fX10_isNode x1 h) fun z1 h1 => if z1 = 0 then (fX10_key_15 x0 x1 x2 x3 x0 h1) else (bd2 (fX10_isKey x2 h1) fun z3 h3 => if z3 = 0 then (fX10_key_15 x0 x1 x2 x3 x0 h3) else (fX10_key_20 x0 x1 x2 x3 (0 : Int32) x0 h3))
def fX10_message_41 (x0 : Nat) (x1 : Int32) (x2 : Int32) (y0 : Int32) (y1 : Nat) (h : Hp) : Option (Int32 × Hp) :=
  if hK h y1 = some (10, 0) then (bd2 (fX10_bad y1 y0 (2 : Int32) h) fun z1 h1 => if z1 = 0 then (if x2 = 0 then (bd (gR h1 10 15 x0) fun z31 => onR z31 (none) fun a32 => bd (ldI h1 11 a32 x1) fun z33 => some (z33, h1)) else (if x2 = (1 : Int32) then (bd (gR h1 10 16 x0) fun z28 => onR z28 (none) fun a29 => bd (ldI h1 11 a29 x1) fun z30 => some (z30, h1)) else (if x2 = (2 : Int32) then (bd (gR h1 10 17 x0) fun z25 => onR z25 (none) fun a26 => bd (ldI h1 11 a26 x1) fun z27 => some (z27, h1)) else (if x2 = (3 : Int32) then (bd (gR h1 10 18 x0) fun z22 => onR z22 (none) fun a23 => bd (ldI h1 11 a23 x1) fun z24 => some (z24, h1)) else (if x2 = (4 : Int32) then (bd (gR h1 10 19 x0) fun z19 => onR z19 (none) fun a20 => bd (ldI h1 11 a20 x1) fun z21 => some (z21, h1)) else (if x2 = (5 : Int32) then (bd (gR h1 10 20 x0) fun z16 => onR z16 (none) fun a17 => bd (ldI h1 11 a17 x1) fun z18 => some (z18, h1)) else (if x2 = (6 : Int32) then (bd (gR h1 10 21 x0) fun z13 => onR z13 (none) fun a14 => bd (ldI h1 11 a14 x1) fun z15 => some (z15, h1)) else (bd (gR h1 10 22 x0) fun z10 => onR z10 (none) fun a11 => bd (ldI h1 11 a11 x1) fun z12 => some (z12, h1))))))))) else (some ((0 : Int32), h1))) else none
def fX10_message_36 (x0 : Nat) (x1 : Int32) (x2 : Int32) (y0 : Nat) (h : Hp) : Option (Int32 × Hp) :=
  fX10_message_41 x0 x1 x2 (1 : Int32) y0 h
def fX10_message_18 (x0 : Nat) (x1 : Int32) (x2 : Int32) (y0 : Int32) (y1 : Nat) (h : Hp) : Option (Int32 × Hp) :=
  if hK h y1 = some (10, 0) then (bd2 (fX10_bad y1 y0 (1 : Int32) h) fun z1 h1 => if z1 = 0 then (if x2 < 0 then (fX10_message_36 x0 x1 x2 x0 h1) else (if x2 ≤ (7 : Int32) then (fX10_message_41 x0 x1 x2 (0 : Int32) x0 h1) else (fX10_message_36 x0 x1 x2 x0 h1))) else (some ((0 : Int32), h1))) else none
def fX10_message_13 (x0 : Nat) (x1 : Int32) (x2 : Int32) (y0 : Nat) (h : Hp) : Option (Int32 × Hp) :=
  fX10_message_18 x0 x1 x2 (1 : Int32) y0 h
def fX10_message (x0 : Nat) (x1 : Int32) (x2 : Int32) (h : Hp) : Option (Int32 × Hp) :=
  if x1 < 0 then (fX10_message_13 x0 x1 x2 x0 h) else (bd (gI h 10 24 x0) fun z2 => if x1 < z2 then (fX10_message_18 x0 x1 x2 (0 : Int32) x0 h) else (fX10_message_13 x0 x1 x2 x0 h))
def fX10_messages (x0 : Nat) (h : Hp) : Option (Int32 × Hp) :=
  bd (pI h 10 0 x0 (0 : Int32)) fun h1 => bd (gI h1 10 24 x0) fun z2 => some (z2, h1)
def fX10_more (x0 : Nat) (x1 : Int32) (x2 : Int32) (x3 : Int32) (x4 : Int32) (h : Hp) : Option (Unit × Hp) :=
  bd (pI h 10 0 x0 (0 : Int32)) fun h1 => bd (pI h1 10 28 x0 x1) fun h2 => bd (pI h2 10 29 x0 x2) fun h3 => bd (pI h3 10 30 x0 x3) fun h4 => bd (pI h4 10 31 x0 x4) fun h5 => some ((), h5)
def fX10_node_307 (k281 : Nat → Int32 → Int32 → Hp → Option (Int32 × Hp)) (x0 : Nat) (x3 : Int32) (x4 : Int32) (h : Hp) : Option (Int32 × Hp) :=
  k281 x0 x3 (x4 + (1 : Int32)) h
def fX10_node_281_body (k281 : Nat → Int32 → Int32 → Hp → Option (Int32 × Hp)) (x0 : Nat) (x3 : Int32) (x4 : Int32) (h : Hp) : Option (Int32 × Hp) :=
  if (8 : Int32) < x4 then (some (x3, h)) else (bd (gR h 10 38 x0) fun z2 => onR z2 (none) fun a3 => bd (ldI h 13 a3 x4) fun z4 => if z4 = 0 then (fX10_node_307 k281 x0 x3 x4 h) else (fX10_node_307 k281 x0 (x3 ||| ((1 : Int32) <<< ((x4 - (1 : Int32)) &&& 31))) x4 h))
def fX10_node_281 : Nat → Nat → Int32 → Int32 → Hp → Option (Int32 × Hp)
  | 0 => fun _ _ _ _ => none
  | n + 1 => fX10_node_281_body (fX10_node_281 n)
def fX10_node_270 (k250 : Nat → Int32 → Int32 → Hp → Option (Int32 × Hp)) (x0 : Nat) (x3 : Int32) (x4 : Int32) (h : Hp) : Option (Int32 × Hp) :=
  k250 x0 x3 (x4 + (1 : Int32)) h
def fX10_node_250_body (k250 : Nat → Int32 → Int32 → Hp → Option (Int32 × Hp)) (x0 : Nat) (x3 : Int32) (x4 : Int32) (h : Hp) : Option (Int32 × Hp) :=
  if (64 : Int32) ≤ x4 then (some (x3, h)) else (bd (gR h 10 33 x0) fun z2 => onR z2 (none) fun a3 => bd (ldI h 11 a3 x4) fun z4 => if z4 ≤ 0 then (fX10_node_270 k250 x0 x3 x4 h) else (fX10_node_270 k250 x0 (x3 + (1 : Int32)) x4 h))
def fX10_node_250 : Nat → Nat → Int32 → Int32 → Hp → Option (Int32 × Hp)
  | 0 => fun _ _ _ _ => none
  | n + 1 => fX10_node_250_body (fX10_node_250 n)
def fX10_node_36 (x0 : Nat) (x1 : Int32) (x2 : Int32) (y0 : Int32) (y1 : Nat) (h : Hp) : Option (Int32 × Hp) :=
  if hK h y1 = some (10, 0) then (bd2 (fX10_bad y1 y0 (2 : Int32) h) fun z1 h1 => if z1 = 0 then (if x2 = (0 : Int32) then (bd (gR h1 10 1 x0) fun z18 => onR z18 (none) fun a19 => bd (ldI h1 13 a19 x1) fun z20 => if z20 = 0 then (some ((0 : Int32), h1)) else (some ((1 : Int32), h1))) else (if x2 = (1 : Int32) then (bd (gR h1 10 2 x0) fun z22 => onR z22 (none) fun a23 => bd (ldI h1 11 a23 x1) fun z24 => some (z24, h1)) else (if x2 = (2 : Int32) then (bd (gR h1 10 3 x0) fun z25 => onR z25 (none) fun a26 => bd (ldI h1 11 a26 x1) fun z27 => some (z27, h1)) else (if x2 = (3 : Int32) then (bd (gR h1 10 8 x0) fun z28 => onR z28 (none) fun a29 => bd (ldI h1 11 a29 x1) fun z30 => some (z30, h1)) else (if x2 = (4 : Int32) then (bd (gR h1 10 4 x0) fun z31 => onR z31 (none) fun a32 => bd (ldI h1 11 a32 x1) fun z33 => some (z33, h1)) else (if x2 = (5 : Int32) then (bd (gR h1 10 5 x0) fun z34 => onR z34 (none) fun a35 => bd (ldI h1 11 a35 x1) fun z36 => some (z36, h1)) else (if x2 = (6 : Int32) then (bd (gR h1 10 1 x0) fun z37 => onR z37 (none) fun a38 => bd (ldI h1 13 a38 x1) fun z39 => if z39 = 0 then (bd (gR h1 10 4 x0) fun z41 => onR z41 (none) fun a42 => bd (ldI h1 11 a42 x1) fun z43 => some (z43, h1)) else (bd (gR h1 10 6 x0) fun z44 => onR z44 (none) fun a45 => bd (ldI h1 11 a45 x1) fun z46 => some (z46, h1))) else (if x2 = (7 : Int32) then (bd (gR h1 10 5 x0) fun z47 => onR z47 (none) fun a48 => bd (ldI h1 11 a48 x1) fun z49 => if hK h1 x0 = some (10, 0) then (bd2 (fX10_termAt x0 x1 z49 h1) fun z50 h50 => some (z50, h50)) else none) else (bd (gR h1 10 1 x0) fun z3 => onR z3 (none) fun a4 => bd (ldI h1 13 a4 x1) fun z5 => if z5 = 0 then (some ((0 : Int32), h1)) else (if hK h1 x0 = some (10, 0) then (bd2 (fX10_work x0 x1 h1) fun _ h7 => if x2 = (8 : Int32) then (bd (gI h7 10 40 x0) fun z10 => some (z10, h7)) else (if x2 = (9 : Int32) then (bd (gI h7 10 41 x0) fun z11 => some (z11, h7)) else (if x2 = (10 : Int32) then (bd (gI h7 10 42 x0) fun z12 => some (z12, h7)) else (if x2 = (11 : Int32) then (fX10_node_250 LF x0 (0 : Int32) (0 : Int32) h7) else (if x2 = (12 : Int32) then (fX10_node_281 LF x0 (0 : Int32) (1 : Int32) h7) else (bd (gI h7 10 47 x0) fun z8 => if hK h7 x0 = some (10, 0) then (bd2 (fX10_firstEvent x0 h7) fun z9 h9 => some ((z8 - z9), h9)) else none)))))) else none)))))))))) else (some ((0 : Int32), h1))) else none
def fX10_node_31 (x0 : Nat) (x1 : Int32) (x2 : Int32) (y0 : Nat) (h : Hp) : Option (Int32 × Hp) :=
  fX10_node_36 x0 x1 x2 (1 : Int32) y0 h
def fX10_node_13 (x0 : Nat) (x1 : Int32) (x2 : Int32) (y0 : Int32) (y1 : Nat) (h : Hp) : Option (Int32 × Hp) :=
  if hK h y1 = some (10, 0) then (bd2 (fX10_bad y1 y0 (1 : Int32) h) fun z1 h1 => if z1 = 0 then (if x2 < 0 then (fX10_node_31 x0 x1 x2 x0 h1) else (if x2 ≤ (13 : Int32) then (fX10_node_36 x0 x1 x2 (0 : Int32) x0 h1) else (fX10_node_31 x0 x1 x2 x0 h1))) else (some ((0 : Int32), h1))) else none
def fX10_node (x0 : Nat) (x1 : Int32) (x2 : Int32) (h : Hp) : Option (Int32 × Hp) :=
  bd2 (fX10_isNode x1 h) fun z1 h1 => if z1 = 0 then (fX10_node_13 x0 x1 x2 (1 : Int32) x0 h1) else (fX10_node_13 x0 x1 x2 (0 : Int32) x0 h1)
def fX10_past_165 (x4 : Int32) (y0 : Int32) (y1 : Nat) (h : Hp) : Option (Int32 × Hp) :=
  if hK h y1 = some (10, 0) then (bd2 (fX10_bad y1 y0 (4 : Int32) h) fun z1 h1 => if z1 = 0 then (some (x4, h1)) else (some ((0 : Int32), h1))) else none
def fX10_past_154 (x0 : Nat) (x4 : Int32) (x5 : Int32) (h : Hp) : Option (Int32 × Hp) :=
  if x5 = 0 then (fX10_past_165 x4 (1 : Int32) x0 h) else (fX10_past_165 x4 (0 : Int32) x0 h)
def fX10_past_148 (k96 : Nat → Int32 → Int32 → Int32 → Int32 → Int32 → Hp → Option (Int32 × Hp)) (x0 : Nat) (x2 : Int32) (x3 : Int32) (x4 : Int32) (x5 : Int32) (x6 : Int32) (h : Hp) : Option (Int32 × Hp) :=
  k96 x0 x2 x3 x4 x5 (x6 + (1 : Int32)) h
def fX10_past_96_body (k96 : Nat → Int32 → Int32 → Int32 → Int32 → Int32 → Hp → Option (Int32 × Hp)) (x0 : Nat) (x2 : Int32) (x3 : Int32) (x4 : Int32) (x5 : Int32) (x6 : Int32) (h : Hp) : Option (Int32 × Hp) :=
  bd (gI h 10 47 x0) fun z1 => if z1 ≤ x6 then (fX10_past_154 x0 x4 x5 h) else (bd (gR h 10 43 x0) fun z3 => onR z3 (none) fun a4 => bd (ldI h 11 a4 x6) fun z5 => if x3 < z5 then (fX10_past_154 x0 x4 x5 h) else (bd (gR h 10 44 x0) fun z7 => onR z7 (none) fun a8 => bd (ldI h 11 a8 x6) fun z9 => if z9 = x2 then (bd (gR h 10 46 x0) fun z11 => onR z11 (none) fun a12 => bd (ldI h 13 a12 x6) fun z13 => bd (gR h 10 45 x0) fun z14 => onR z14 (none) fun a15 => bd (ldI h 11 a15 x6) fun z16 => fX10_past_148 k96 x0 x2 x3 z16 z13 x6 h) else (fX10_past_148 k96 x0 x2 x3 x4 x5 x6 h)))
def fX10_past_96 : Nat → Nat → Int32 → Int32 → Int32 → Int32 → Int32 → Hp → Option (Int32 × Hp)
  | 0 => fun _ _ _ _ _ _ _ => none
  | n + 1 => fX10_past_96_body (fX10_past_96 n)
def fX10_past_78 (x0 : Nat) (x2 : Int32) (x3 : Int32) (y0 : Int32) (y1 : Nat) (h : Hp) : Option (Int32 × Hp) :=
  if hK h y1 = some (10, 0) then (bd2 (fX10_bad y1 y0 (3 : Int32) h) fun z1 h1 => if z1 = 0 then (fX10_past_96 LF x0 x2 x3 (0 : Int32) (0 : Int32) (0 : Int32) h1) else (some ((0 : Int32), h1))) else none
def fX10_past_73 (x0 : Nat) (x2 : Int32) (x3 : Int32) (y0 : Nat) (h : Hp) : Option (Int32 × Hp) :=
  fX10_past_78 x0 x2 x3 (1 : Int32) y0 h
def fX10_past_42 (x0 : Nat) (x1 : Int32) (x2 : Int32) (x3 : Int32) (y0 : Int32) (y1 : Nat) (h : Hp) : Option (Int32 × Hp) :=
  if hK h y1 = some (10, 0) then (bd2 (fX10_bad y1 y0 (2 : Int32) h) fun z1 h1 => if z1 = 0 then (if hK h1 x0 = some (10, 0) then (bd2 (fX10_work x0 x1 h1) fun _ h3 => bd (gI h3 10 42 x0) fun z4 => if x3 < z4 then (fX10_past_73 x0 x2 x3 x0 h3) else (bd (gI h3 10 40 x0) fun z6 => if x3 ≤ z6 then (fX10_past_78 x0 x2 x3 (0 : Int32) x0 h3) else (fX10_past_73 x0 x2 x3 x0 h3))) else none) else (some ((0 : Int32), h1))) else none
def fX10_past_20 (x0 : Nat) (x1 : Int32) (x2 : Int32) (x3 : Int32) (y0 : Int32) (y1 : Nat) (h : Hp) : Option (Int32 × Hp) :=
  if hK h y1 = some (10, 0) then (bd2 (fX10_bad y1 y0 (1 : Int32) h) fun z1 h1 => if z1 = 0 then (bd (gR h1 10 1 x0) fun z3 => onR z3 (none) fun a4 => bd (ldI h1 13 a4 x1) fun z5 => if z5 = 0 then (fX10_past_42 x0 x1 x2 x3 (1 : Int32) x0 h1) else (fX10_past_42 x0 x1 x2 x3 (0 : Int32) x0 h1)) else (some ((0 : Int32), h1))) else none
def fX10_past_15 (x0 : Nat) (x1 : Int32) (x2 : Int32) (x3 : Int32) (y0 : Nat) (h : Hp) : Option (Int32 × Hp) :=
  fX10_past_20 x0 x1 x2 x3 (1 : Int32) y0 h
def fX10_past (x0 : Nat) (x1 : Int32) (x2 : Int32) (x3 : Int32) (h : Hp) : Option (Int32 × Hp) :=
  bd2 (fX10_isNode x1 h) fun z1 h1 => if z1 = 0 then (fX10_past_15 x0 x1 x2 x3 x0 h1) else (bd2 (fX10_isKey x2 h1) fun z3 h3 => if z3 = 0 then (fX10_past_15 x0 x1 x2 x3 x0 h3) else (fX10_past_20 x0 x1 x2 x3 (0 : Int32) x0 h3))
def fX10_power_37 (x0 : Nat) (x1 : Int32) (x2 : Int32) (y0 : Int32) (y1 : Nat) (h : Hp) : Option (Unit × Hp) :=
  if hK h y1 = some (10, 0) then (bd2 (fX10_bad y1 y0 (2 : Int32) h) fun z1 h1 => if z1 = 0 then (bd (gR h1 10 10 x0) fun z3 => onR z3 (none) fun a4 => bd (stI h1 11 a4 x1 x2) fun h5 => some ((), h5)) else (some ((), h1))) else none
def fX10_power_32 (x0 : Nat) (x1 : Int32) (x2 : Int32) (y0 : Nat) (h : Hp) : Option (Unit × Hp) :=
  fX10_power_37 x0 x1 x2 (1 : Int32) y0 h
def fX10_power_13 (x0 : Nat) (x1 : Int32) (x2 : Int32) (y0 : Int32) (y1 : Nat) (h : Hp) : Option (Unit × Hp) :=
  if hK h y1 = some (10, 0) then (bd2 (fX10_bad y1 y0 (1 : Int32) h) fun z1 h1 => if z1 = 0 then (if x2 < (-1 : Int32) then (fX10_power_32 x0 x1 x2 x0 h1) else (if x2 ≤ (100 : Int32) then (fX10_power_37 x0 x1 x2 (0 : Int32) x0 h1) else (fX10_power_32 x0 x1 x2 x0 h1))) else (some ((), h1))) else none
def fX10_power (x0 : Nat) (x1 : Int32) (x2 : Int32) (h : Hp) : Option (Unit × Hp) :=
  bd2 (fX10_isNode x1 h) fun z1 h1 => if z1 = 0 then (fX10_power_13 x0 x1 x2 (1 : Int32) x0 h1) else (fX10_power_13 x0 x1 x2 (0 : Int32) x0 h1)
def fX10_propose_81 (x0 : Nat) (x1 : Int32) (x2 : Int32) (x3 : Int32) (x4 : Int32) (y0 : Int32) (y1 : Nat) (h : Hp) : Option (Int32 × Hp) :=
  if hK h y1 = some (10, 0) then (bd2 (fX10_bad y1 y0 (3 : Int32) h) fun z1 h1 => if z1 = 0 then (bd (gI h1 10 28 x0) fun z3 => bd (gI h1 10 29 x0) fun z4 => bd (gI h1 10 30 x0) fun z5 => bd (gI h1 10 31 x0) fun z6 => if hK h1 x0 = some (10, 0) then (bd2 (fX10_adds x0 x1 x2 x3 x4 z3 z4 z5 z6 h1) fun z7 h7 => if z7 = 0 then (some ((0 : Int32), h7)) else (bd (gR h7 10 5 x0) fun z9 => onR z9 (none) fun a10 => bd (ldI h7 11 a10 x1) fun z11 => some (z11, h7))) else none) else (some ((0 : Int32), h1))) else none
def fX10_propose_76 (x0 : Nat) (x1 : Int32) (x2 : Int32) (x3 : Int32) (x4 : Int32) (y0 : Nat) (h : Hp) : Option (Int32 × Hp) :=
  fX10_propose_81 x0 x1 x2 x3 x4 (1 : Int32) y0 h
def fX10_propose_37 (x0 : Nat) (x1 : Int32) (x2 : Int32) (x3 : Int32) (x4 : Int32) (y0 : Int32) (y1 : Nat) (h : Hp) : Option (Int32 × Hp) :=
  if hK h y1 = some (10, 0) then (bd2 (fX10_bad y1 y0 (2 : Int32) h) fun z1 h1 => if z1 = 0 then (bd (gR h1 10 1 x0) fun z3 => onR z3 (none) fun a4 => bd (ldI h1 13 a4 x1) fun z5 => if z5 = 0 then (fX10_propose_76 x0 x1 x2 x3 x4 x0 h1) else (bd (gR h1 10 8 x0) fun z7 => onR z7 (none) fun a8 => bd (ldI h1 11 a8 x1) fun z9 => if z9 = (2 : Int32) then (bd (gR h1 10 5 x0) fun z11 => onR z11 (none) fun a12 => bd (ldI h1 11 a12 x1) fun z13 => if z13 = (1200 : Int32) then (fX10_propose_76 x0 x1 x2 x3 x4 x0 h1) else (fX10_propose_81 x0 x1 x2 x3 x4 (0 : Int32) x0 h1)) else (fX10_propose_76 x0 x1 x2 x3 x4 x0 h1))) else (some ((0 : Int32), h1))) else none
def fX10_propose_13 (x0 : Nat) (x1 : Int32) (x2 : Int32) (x3 : Int32) (x4 : Int32) (y0 : Int32) (y1 : Nat) (h : Hp) : Option (Int32 × Hp) :=
  if hK h y1 = some (10, 0) then (bd2 (fX10_bad y1 y0 (1 : Int32) h) fun z1 h1 => if z1 = 0 then (if hK h1 x0 = some (10, 0) then (bd2 (fX10_isRight x0 x2 x3 x4 h1) fun z3 h3 => if z3 = 0 then (fX10_propose_37 x0 x1 x2 x3 x4 (1 : Int32) x0 h3) else (fX10_propose_37 x0 x1 x2 x3 x4 (0 : Int32) x0 h3)) else none) else (some ((0 : Int32), h1))) else none
def fX10_propose (x0 : Nat) (x1 : Int32) (x2 : Int32) (x3 : Int32) (x4 : Int32) (h : Hp) : Option (Int32 × Hp) :=
  bd2 (fX10_isNode x1 h) fun z1 h1 => if z1 = 0 then (fX10_propose_13 x0 x1 x2 x3 x4 (1 : Int32) x0 h1) else (fX10_propose_13 x0 x1 x2 x3 x4 (0 : Int32) x0 h1)
def fX10_result_55 (x0 : Nat) (x1 : Int32) (x2 : Int32) (y0 : Int32) (y1 : Nat) (h : Hp) : Option (Int32 × Hp) :=
  if hK h y1 = some (10, 0) then (bd2 (fX10_bad y1 y0 (2 : Int32) h) fun z1 h1 => if z1 = 0 then (if hK h1 x0 = some (10, 0) then (bd2 (fX10_work x0 x1 h1) fun _ h3 => bd (gR h3 10 48 x0) fun z4 => onR z4 (none) fun a5 => bd (ldI h3 11 a5 x2) fun z6 => some (z6, h3)) else none) else (some ((0 : Int32), h1))) else none
def fX10_result_50 (x0 : Nat) (x1 : Int32) (x2 : Int32) (y0 : Nat) (h : Hp) : Option (Int32 × Hp) :=
  fX10_result_55 x0 x1 x2 (1 : Int32) y0 h
def fX10_result_13 (x0 : Nat) (x1 : Int32) (x2 : Int32) (y0 : Int32) (y1 : Nat) (h : Hp) : Option (Int32 × Hp) :=
  if hK h y1 = some (10, 0) then (bd2 (fX10_bad y1 y0 (1 : Int32) h) fun z1 h1 => if z1 = 0 then (bd (gR h1 10 1 x0) fun z3 => onR z3 (none) fun a4 => bd (ldI h1 13 a4 x1) fun z5 => if z5 = 0 then (fX10_result_50 x0 x1 x2 x0 h1) else (bd (gR h1 10 7 x0) fun z7 => onR z7 (none) fun a8 => bd (ldI h1 11 a8 x1) fun z9 => if x2 ≤ z9 then (fX10_result_50 x0 x1 x2 x0 h1) else (bd (gR h1 10 6 x0) fun z11 => onR z11 (none) fun a12 => bd (ldI h1 11 a12 x1) fun z13 => if x2 ≤ z13 then (fX10_result_55 x0 x1 x2 (0 : Int32) x0 h1) else (fX10_result_50 x0 x1 x2 x0 h1)))) else (some ((0 : Int32), h1))) else none
def fX10_result (x0 : Nat) (x1 : Int32) (x2 : Int32) (h : Hp) : Option (Int32 × Hp) :=
  bd2 (fX10_isNode x1 h) fun z1 h1 => if z1 = 0 then (fX10_result_13 x0 x1 x2 (1 : Int32) x0 h1) else (fX10_result_13 x0 x1 x2 (0 : Int32) x0 h1)
def fX10_shrink_50 (x0 : Nat) (x1 : Int32) (y0 : Int32) (y1 : Nat) (h : Hp) : Option (Int32 × Hp) :=
  if hK h y1 = some (10, 0) then (bd2 (fX10_bad y1 y0 (2 : Int32) h) fun z1 h1 => if z1 = 0 then (if hK h1 x0 = some (10, 0) then (bd2 (fX10_record x0 x1 h1) fun z3 h3 => if z3 = 0 then (bd (gR h3 10 4 x0) fun z5 => onR z5 (none) fun a6 => bd (ldI h3 11 a6 x1) fun z7 => some (z7, h3)) else (bd (gR h3 10 4 x0) fun z8 => onR z8 (none) fun a9 => bd (gR h3 10 6 x0) fun z10 => onR z10 (none) fun a11 => bd (ldI h3 11 a11 x1) fun z12 => bd (stI h3 11 a9 x1 z12) fun h13 => bd (gR h13 10 4 x0) fun z14 => onR z14 (none) fun a15 => bd (ldI h13 11 a15 x1) fun z16 => some (z16, h13))) else none) else (some ((0 : Int32), h1))) else none
def fX10_shrink_45 (x0 : Nat) (x1 : Int32) (y0 : Nat) (h : Hp) : Option (Int32 × Hp) :=
  fX10_shrink_50 x0 x1 (1 : Int32) y0 h
def fX10_shrink_13 (x0 : Nat) (x1 : Int32) (y0 : Int32) (y1 : Nat) (h : Hp) : Option (Int32 × Hp) :=
  if hK h y1 = some (10, 0) then (bd2 (fX10_bad y1 y0 (1 : Int32) h) fun z1 h1 => if z1 = 0 then (bd (gR h1 10 1 x0) fun z3 => onR z3 (none) fun a4 => bd (ldI h1 13 a4 x1) fun z5 => if z5 = 0 then (fX10_shrink_45 x0 x1 x0 h1) else (bd (gR h1 10 6 x0) fun z7 => onR z7 (none) fun a8 => bd (ldI h1 11 a8 x1) fun z9 => bd (gR h1 10 4 x0) fun z10 => onR z10 (none) fun a11 => bd (ldI h1 11 a11 x1) fun z12 => if z9 = z12 then (fX10_shrink_45 x0 x1 x0 h1) else (fX10_shrink_50 x0 x1 (0 : Int32) x0 h1))) else (some ((0 : Int32), h1))) else none
def fX10_shrink (x0 : Nat) (x1 : Int32) (h : Hp) : Option (Int32 × Hp) :=
  bd2 (fX10_isNode x1 h) fun z1 h1 => if z1 = 0 then (fX10_shrink_13 x0 x1 (1 : Int32) x0 h1) else (fX10_shrink_13 x0 x1 (0 : Int32) x0 h1)
def fX10_start_13 (x0 : Nat) (x1 : Int32) (y0 : Int32) (y1 : Nat) (h : Hp) : Option (Int32 × Hp) :=
  if hK h y1 = some (10, 0) then (bd2 (fX10_bad y1 y0 (1 : Int32) h) fun z1 h1 => if z1 = 0 then (bd (gR h1 10 1 x0) fun z3 => onR z3 (none) fun a4 => bd (ldI h1 13 a4 x1) fun z5 => if hK h1 x0 = some (10, 0) then (bd2 (fX10_bad x0 z5 (2 : Int32) h1) fun z6 h6 => if z6 = 0 then (bd (gR h6 10 1 x0) fun z8 => onR z8 (none) fun a9 => bd (stZ h6 13 a9 x1 (1 : Int32)) fun h10 => bd (gR h10 10 6 x0) fun z11 => onR z11 (none) fun a12 => bd (gR h10 10 4 x0) fun z13 => onR z13 (none) fun a14 => bd (ldI h10 11 a14 x1) fun z15 => bd (stI h10 11 a12 x1 z15) fun h16 => bd (gR h16 10 7 x0) fun z17 => onR z17 (none) fun a18 => bd (gR h16 10 4 x0) fun z19 => onR z19 (none) fun a20 => bd (ldI h16 11 a20 x1) fun z21 => bd (stI h16 11 a18 x1 z21) fun h22 => bd (gR h22 10 9 x0) fun z23 => onR z23 (none) fun a24 => bd (stI h22 11 a24 x1 (0 : Int32)) fun h25 => bd (gR h25 10 5 x0) fun z26 => onR z26 (none) fun a27 => bd (ldI h25 11 a27 x1) fun z28 => some (z28, h25)) else (some ((0 : Int32), h6))) else none) else (some ((0 : Int32), h1))) else none
def fX10_start (x0 : Nat) (x1 : Int32) (h : Hp) : Option (Int32 × Hp) :=
  bd2 (fX10_isNode x1 h) fun z1 h1 => if z1 = 0 then (fX10_start_13 x0 x1 (1 : Int32) x0 h1) else (fX10_start_13 x0 x1 (0 : Int32) x0 h1)
def fX10_thrown (x0 : Nat) (h : Hp) : Option (Int32 × Hp) :=
  bd (gI h 10 0 x0) fun z1 => some (z1, h)
def fX1_entryAt (x0 : Nat) (x1 : Int32) (h : Hp) : Option (Option Nat × Hp) :=
  bd (gR h 1 3 x0) fun z1 => onR z1 (none) fun a2 => bd (gI h 6 1 a2) fun z3 => if x1 ≤ z3 then (some (none, h)) else (bd (gI h 1 2 x0) fun z5 => if z5 < x1 then (some (none, h)) else (bd (gR h 1 5 x0) fun z7 => onR z7 (none) fun a8 => bd (lnA h 14 a8) fun z9 => if x1 < z9 then (bd (gR h 1 5 x0) fun z11 => onR z11 (none) fun a12 => bd (ldR h 14 a12 x1) fun z13 => onR z13 (some (none, h)) fun a14 => some (some a14, h)) else (some (none, h))))
def fX1_entriesBehind_23_body (k23 : Nat → Int32 → Int32 → Nat → Int32 → Hp → Option (Option Nat × Hp)) (x0 : Nat) (x1 : Int32) (x2 : Int32) (x3 : Nat) (x4 : Int32) (h : Hp) : Option (Option Nat × Hp) :=
  if x2 ≤ x4 then (some (some x3, h)) else (if hK h x0 = some (1, 0) then (bd2 (fX1_entryAt x0 ((x1 + (1 : Int32)) + x4) h) fun z2 h2 => onR z2 (bd (stN h2 14 x3 x4) fun h5 => k23 x0 x1 x2 x3 (x4 + (1 : Int32)) h5) fun a3 => bd (stR h2 14 2 x3 x4 a3) fun h4 => k23 x0 x1 x2 x3 (x4 + (1 : Int32)) h4) else none)
def fX1_entriesBehind_23 : Nat → Nat → Int32 → Int32 → Nat → Int32 → Hp → Option (Option Nat × Hp)
  | 0 => fun _ _ _ _ _ _ => none
  | n + 1 => fX1_entriesBehind_23_body (fX1_entriesBehind_23 n)
def fX1_entriesBehind (x0 : Nat) (x1 : Int32) (h : Hp) : Option (Option Nat × Hp) :=
  bd (gI h 1 2 x0) fun z1 => bd (mkA h 14 (mx (0 : Int32) (mn (4 : Int32) (z1 - x1))) 4) fun h2 => fX1_entriesBehind_23 LF x0 x1 (mx (0 : Int32) (mn (4 : Int32) (z1 - x1))) (hZ h) (0 : Int32) h2
def fX1_init (x0 : Nat) (x1 : Nat) (h : Hp) : Option (Unit × Hp) :=
  bd (pI h 1 1 x0 (-1 : Int32)) fun h1 => bd (pI h1 1 4 x0 (-1 : Int32)) fun h2 => bd (mkA h2 14 (1201 : Int32) 1201) fun h3 => bd (pR h3 1 5 x0 (some (hZ h2))) fun h4 => bd (pR h4 1 3 x0 (some x1)) fun h5 => some ((), h5)
def fX1_powerFails (x0 : Nat) (h : Hp) : Option (Int32 × Hp) :=
  bd (gI h 1 4 x0) fun z1 => if z1 = 0 then (some ((1 : Int32), h)) else (bd (gI h 1 4 x0) fun z3 => if z3 ≤ 0 then (some ((0 : Int32), h)) else (bd (gI h 1 4 x0) fun z5 => bd (pI h 1 4 x0 (z5 - (1 : Int32))) fun h6 => some ((0 : Int32), h6)))
def fX1_recordEntry (x0 : Nat) (x1 : Int32) (x2 : Nat) (h : Hp) : Option (Int32 × Hp) :=
  if x1 < (1 : Int32) then (some ((0 : Int32), h)) else (bd (gR h 1 5 x0) fun z2 => onR z2 (none) fun a3 => bd (lnA h 14 a3) fun z4 => if z4 ≤ x1 then (some ((0 : Int32), h)) else (if hK h x0 = some (1, 0) then (bd2 (fX1_powerFails x0 h) fun z6 h6 => if z6 = 0 then (bd (gR h6 1 5 x0) fun z8 => onR z8 (none) fun a9 => bd (stR h6 14 2 a9 x1 x2) fun h10 => bd (pI h10 1 2 x0 x1) fun h11 => some ((1 : Int32), h11)) else (some ((0 : Int32), h6))) else none))
def fX1_termAt (x0 : Nat) (x1 : Int32) (h : Hp) : Option (Int32 × Hp) :=
  bd (gR h 1 3 x0) fun z1 => onR z1 (none) fun a2 => bd (gI h 6 1 a2) fun z3 => if x1 = z3 then (bd (gR h 1 3 x0) fun z8 => onR z8 (none) fun a9 => bd (gI h 6 2 a9) fun z10 => some (z10, h)) else (if hK h x0 = some (1, 0) then (bd2 (fX1_entryAt x0 x1 h) fun z5 h5 => onR z5 (some ((-1 : Int32), h5)) fun a6 => bd (gI h5 2 0 a6) fun z7 => some (z7, h5)) else none)
def fX1_recordSnapshot (x0 : Nat) (x1 : Nat) (h : Hp) : Option (Int32 × Hp) :=
  if hK h x0 = some (1, 0) then (bd2 (fX1_powerFails x0 h) fun z1 h1 => if z1 = 0 then (bd (gI h1 6 1 x1) fun z3 => if hK h1 x0 = some (1, 0) then (bd2 (fX1_termAt x0 z3 h1) fun z4 h4 => bd (gI h4 6 2 x1) fun z5 => if z4 = z5 then (bd (pR h4 1 3 x0 (some x1)) fun h7 => some ((1 : Int32), h7)) else (bd (gI h4 6 1 x1) fun z8 => bd (pI h4 1 2 x0 z8) fun h9 => bd (pR h9 1 3 x0 (some x1)) fun h10 => some ((1 : Int32), h10))) else none) else (some ((0 : Int32), h1))) else none
def fX1_recordVote (x0 : Nat) (x1 : Int32) (x2 : Int32) (h : Hp) : Option (Int32 × Hp) :=
  if hK h x0 = some (1, 0) then (bd2 (fX1_powerFails x0 h) fun z1 h1 => if z1 = 0 then (bd (pI h1 1 0 x0 x1) fun h3 => bd (pI h3 1 1 x0 x2) fun h4 => some ((1 : Int32), h4)) else (some ((0 : Int32), h1))) else none
def fX2_init (x0 : Nat) (x1 : Int32) (x2 : Nat) (h : Hp) : Option (Unit × Hp) :=
  bd (pI h 2 0 x0 x1) fun h1 => bd (pR h1 2 1 x0 (some x2)) fun h2 => some ((), h2)
def fX2_isLike (x0 : Nat) (x1 : Nat) (h : Hp) : Option (Int32 × Hp) :=
  bd (gI h 2 0 x0) fun z1 => bd (gI h 2 0 x1) fun z2 => if z1 = z2 then (bd (gR h 2 1 x0) fun z4 => onR z4 (none) fun a5 => bd (gR h 2 1 x1) fun z6 => onR z6 (none) fun a7 => if hK h a5 = some (0, 0) then (bd2 (fX0_isLike a5 a7 h) fun z8 h8 => if z8 = 0 then (some ((0 : Int32), h8)) else (some ((1 : Int32), h8))) else none) else (some ((0 : Int32), h))
def fX3_init (x0 : Nat) (h : Hp) : Option (Unit × Hp) :=
  bd (mkA h 15 (3000 : Int32) 3000) fun h1 => bd (pR h1 3 0 x0 (some (hZ h))) fun h2 => some ((), h2)
def fX3_send_48 (x0 : Nat) (x1 : Nat) (h : Hp) : Option (Unit × Hp) :=
  bd (gR h 3 0 x0) fun z1 => onR z1 (none) fun a2 => bd (gI h 3 1 x0) fun z3 => bd (stR h 15 4 a2 z3 x1) fun h4 => bd (gI h4 3 1 x0) fun z5 => bd (pI h4 3 1 x0 (z5 + (1 : Int32))) fun h6 => some ((), h6)
def fX3_send_30 (x0 : Nat) (x1 : Nat) (h : Hp) : Option (Unit × Hp) :=
  bd (gI h 4 0 x1) fun z1 => if z1 = (5 : Int32) then (bd (gI h 3 2 x0) fun z3 => bd (pI h 3 2 x0 (z3 + (1 : Int32))) fun h4 => fX3_send_48 x0 x1 h4) else (fX3_send_48 x0 x1 h)
def fX3_send (x0 : Nat) (x1 : Nat) (h : Hp) : Option (Unit × Hp) :=
  bd (gI h 3 1 x0) fun z1 => bd (gR h 3 0 x0) fun z2 => onR z2 (none) fun a3 => bd (lnA h 15 a3) fun z4 => if z4 ≤ z1 then (some ((), h)) else (bd (gI h 4 0 x1) fun z6 => if z6 = (5 : Int32) then (bd (gI h 3 2 x0) fun z8 => if z8 < (60 : Int32) then (fX3_send_30 x0 x1 h) else (some ((), h))) else (fX3_send_30 x0 x1 h))
def fX4_entryCount (x0 : Nat) (h : Hp) : Option (Int32 × Hp) :=
  bd (gR h 4 6 x0) fun z1 => onR z1 (some ((0 : Int32), h)) fun a2 => bd (gR h 4 6 x0) fun z3 => onR z3 (none) fun a4 => bd (lnA h 14 a4) fun z5 => some (z5, h)
def fX4_field (x0 : Nat) (x1 : Int32) (h : Hp) : Option (Int32 × Hp) :=
  if x1 = (0 : Int32) then (bd (gI h 4 0 x0) fun z2 => some (z2, h)) else (if x1 = (1 : Int32) then (bd (gI h 4 1 x0) fun z3 => some (z3, h)) else (if x1 = (2 : Int32) then (bd (gI h 4 2 x0) fun z4 => some (z4, h)) else (if x1 = (3 : Int32) then (bd (gI h 4 3 x0) fun z5 => some (z5, h)) else (if x1 = (4 : Int32) then (bd (gI h 4 4 x0) fun z6 => some (z6, h)) else (if x1 = (5 : Int32) then (bd (gI h 4 5 x0) fun z7 => some (z7, h)) else (if x1 = (6 : Int32) then (if hK h x0 = some (4, 0) then (bd2 (fX4_entryCount x0 h) fun z8 h8 => some (z8, h8)) else none) else (bd (gI h 4 7 x0) fun z1 => some (z1, h))))))))
def fX4_init (x0 : Nat) (x1 : Int32) (x2 : Int32) (x3 : Int32) (x4 : Int32) (x5 : Int32) (x6 : Int32) (h : Hp) : Option (Unit × Hp) :=
  bd (pI h 4 0 x0 x1) fun h1 => bd (pI h1 4 1 x0 x2) fun h2 => bd (pI h2 4 2 x0 x3) fun h3 => bd (pI h3 4 3 x0 x4) fun h4 => bd (pI h4 4 4 x0 x5) fun h5 => bd (pI h5 4 5 x0 x6) fun h6 => some ((), h6)
def fX5_reply (x0 : Nat) (x1 : Nat) (x2 : Int32) (x3 : Int32) (h : Hp) : Option (Unit × Hp) :=
  bd (gR h 5 7 x0) fun z1 => onR z1 (none) fun a2 => bd (nwO h 4) fun h3 => bd (gI h3 5 6 x0) fun z4 => bd (gI h3 4 1 x1) fun z5 => bd (gR h3 5 0 x0) fun z6 => onR z6 (none) fun a7 => bd (gI h3 1 0 a7) fun z8 => bd2 (fX4_init (hZ h) x2 z4 z5 z8 x3 (0 : Int32) h3) fun _ h9 => if hK h9 a2 = some (3, 0) then (bd2 (fX3_send a2 (hZ h) h9) fun _ h10 => some ((), h10)) else none
def fX5_answerOutdated_33 (x0 : Nat) (x1 : Nat) (h : Hp) : Option (Unit × Hp) :=
  bd (gR h 5 0 x0) fun z1 => onR z1 (none) fun a2 => bd (gI h 1 2 a2) fun z3 => if hK h x0 = some (5, 0) then (bd2 (fX5_reply x0 x1 (4 : Int32) z3 h) fun _ h4 => some ((), h4)) else none
def fX5_answerOutdated (x0 : Nat) (x1 : Nat) (h : Hp) : Option (Unit × Hp) :=
  bd (gI h 4 0 x1) fun z1 => if z1 = 0 then (if hK h x0 = some (5, 0) then (bd2 (fX5_reply x0 x1 (1 : Int32) (0 : Int32) h) fun _ h7 => some ((), h7)) else none) else (bd (gI h 4 0 x1) fun z3 => if z3 = (2 : Int32) then (fX5_answerOutdated_33 x0 x1 h) else (bd (gI h 4 0 x1) fun z5 => if z5 = (5 : Int32) then (fX5_answerOutdated_33 x0 x1 h) else (some ((), h))))
def fX8_seeApplied (x0 : Nat) (x1 : Int32) (x2 : Nat) (h : Hp) : Option (Unit × Hp) :=
  if x1 < 0 then (some ((), h)) else (bd (gR h 8 1 x0) fun z2 => onR z2 (none) fun a3 => bd (lnA h 14 a3) fun z4 => if x1 < z4 then (bd (gR h 8 1 x0) fun z6 => onR z6 (none) fun a7 => bd (ldR h 14 a7 x1) fun z8 => onR z8 (bd (gR h 8 1 x0) fun z14 => onR z14 (none) fun a15 => bd (stR h 14 2 a15 x1 x2) fun h16 => some ((), h16)) fun a9 => if hK h a9 = some (2, 0) then (bd2 (fX2_isLike a9 x2 h) fun z10 h10 => if z10 = 0 then (bd (gI h10 8 2 x0) fun z12 => bd (pI h10 8 2 x0 (z12 + (1 : Int32))) fun h13 => some ((), h13)) else (some ((), h10))) else none) else (some ((), h)))
def fX7_bitOfLease (x0 : Int32) (h : Hp) : Option (Int32 × Hp) :=
  some (((1 : Int32) <<< ((x0 - (1 : Int32)) &&& 31)), h)
def fX7_hasLease (x0 : Nat) (x1 : Int32) (h : Hp) : Option (Int32 × Hp) :=
  bd2 (fX9_isLease x1 h) fun z1 h1 => if z1 = 0 then (some ((0 : Int32), h1)) else (bd (gI h1 7 12 x0) fun z3 => bd2 (fX7_bitOfLease x1 h1) fun z4 h4 => if (z3 &&& z4) = 0 then (some ((0 : Int32), h4)) else (some ((1 : Int32), h4)))
def fX7_addEvent (x0 : Nat) (x1 : Int64) (h : Hp) : Option (Unit × Hp) :=
  bd (gI h 7 3 x0) fun z1 => if (464 : Int32) ≤ z1 then (some ((), h)) else (bd (gR h 7 2 x0) fun z3 => onR z3 (none) fun a4 => bd (gI h 7 3 x0) fun z5 => bd (stL h 12 a4 z5 x1) fun h6 => bd (gI h6 7 3 x0) fun z7 => bd (pI h6 7 3 x0 (z7 + (1 : Int32))) fun h8 => some ((), h8))
def fX7_endRevision (x0 : Nat) (x1 : Int32) (h : Hp) : Option (Unit × Hp) :=
  if x1 ≤ 0 then (some ((), h)) else (bd (gI h 7 0 x0) fun z2 => bd (pI h 7 0 x0 (z2 + (1 : Int32))) fun h3 => some ((), h3))
def fX7_put_33 (x0 : Nat) (x1 : Int32) (x2 : Int32) (x3 : Int32) (x4 : Int32) (h : Hp) : Option (Unit × Hp) :=
  bd (gR h 7 5 x0) fun z1 => onR z1 (none) fun a2 => bd (ldI h 11 a2 x1) fun z3 => bd (stI h 11 a2 x1 (z3 + (1 : Int32))) fun h4 => bd (gR h4 7 7 x0) fun z5 => onR z5 (none) fun a6 => bd (stI h4 11 a6 x1 x4) fun h7 => bd (gR h7 7 8 x0) fun z8 => onR z8 (none) fun a9 => bd (stI h7 11 a9 x1 x2) fun h10 => bd (gR h10 7 9 x0) fun z11 => onR z11 (none) fun a12 => bd (stI h10 11 a12 x1 x3) fun h13 => if hK h13 x0 = some (7, 0) then (bd2 (fX7_addEvent x0 ((((x4.toInt64) <<< ((38 : Int32).toInt64 &&& 63)) + ((x1.toInt64) <<< ((32 : Int32).toInt64 &&& 63))) + ((x2.toInt64) &&& (4294967295 : Int64))) h13) fun _ h14 => if hK h14 x0 = some (7, 0) then (bd2 (fX7_endRevision x0 (1 : Int32) h14) fun _ h15 => some ((), h15)) else none) else none
def fX7_put (x0 : Nat) (x1 : Int32) (x2 : Int32) (x3 : Int32) (h : Hp) : Option (Unit × Hp) :=
  bd2 (fX9_isKey x1 h) fun z1 h1 => if z1 = 0 then (some ((), h1)) else (bd (gI h1 7 0 x0) fun z3 => bd (gR h1 7 5 x0) fun z4 => onR z4 (none) fun a5 => bd (ldI h1 11 a5 x1) fun z6 => if z6 = 0 then (bd (gR h1 7 6 x0) fun z8 => onR z8 (none) fun a9 => bd (stI h1 11 a9 x1 (z3 + (1 : Int32))) fun h10 => fX7_put_33 x0 x1 x2 x3 (z3 + (1 : Int32)) h10) else (fX7_put_33 x0 x1 x2 x3 (z3 + (1 : Int32)) h1))
def fX7_putWithLease_14 (x0 : Nat) (x1 : Int32) (x2 : Int32) (x3 : Int32) (h : Hp) : Option (Int32 × Hp) :=
  if hK h x0 = some (7, 0) then (bd2 (fX7_put x0 x1 x2 x3 h) fun _ h1 => bd (gI h1 7 0 x0) fun z2 => some (z2, h1)) else none
def fX7_putWithLease (x0 : Nat) (x1 : Int32) (x2 : Int32) (x3 : Int32) (h : Hp) : Option (Int32 × Hp) :=
  if x3 = 0 then (fX7_putWithLease_14 x0 x1 x2 x3 h) else (if hK h x0 = some (7, 0) then (bd2 (fX7_hasLease x0 x3 h) fun z2 h2 => if z2 = 0 then (some ((-1 : Int32), h2)) else (fX7_putWithLease_14 x0 x1 x2 x3 h2)) else none)
def fX7_remove (x0 : Nat) (x1 : Int32) (h : Hp) : Option (Int32 × Hp) :=
  bd2 (fX9_isKey x1 h) fun z1 h1 => if z1 = 0 then (some ((0 : Int32), h1)) else (bd (gR h1 7 5 x0) fun z3 => onR z3 (none) fun a4 => bd (ldI h1 11 a4 x1) fun z5 => if z5 = 0 then (some ((0 : Int32), h1)) else (bd (gR h1 7 5 x0) fun z7 => onR z7 (none) fun a8 => bd (stI h1 11 a8 x1 (0 : Int32)) fun h9 => bd (gR h9 7 6 x0) fun z10 => onR z10 (none) fun a11 => bd (stI h9 11 a11 x1 (0 : Int32)) fun h12 => bd (gR h12 7 7 x0) fun z13 => onR z13 (none) fun a14 => bd (stI h12 11 a14 x1 (0 : Int32)) fun h15 => bd (gR h15 7 8 x0) fun z16 => onR z16 (none) fun a17 => bd (stI h15 11 a17 x1 (0 : Int32)) fun h18 => bd (gR h18 7 9 x0) fun z19 => onR z19 (none) fun a20 => bd (stI h18 11 a20 x1 (0 : Int32)) fun h21 => bd (gI h21 7 0 x0) fun z22 => if hK h21 x0 = some (7, 0) then (bd2 (fX7_addEvent x0 ((-1 : Int64) - (((64 : Int64) * ((z22 + (1 : Int32)).toInt64)) + (x1.toInt64))) h21) fun _ h23 => some ((1 : Int32), h23)) else none))
def fX7_removeRange_37 (x0 : Nat) (x3 : Int32) (h : Hp) : Option (Int32 × Hp) :=
  if hK h x0 = some (7, 0) then (bd2 (fX7_endRevision x0 x3 h) fun _ h1 => some (x3, h1)) else none
def fX7_removeRange_9_body (k9 : Nat → Int32 → Int32 → Int32 → Hp → Option (Int32 × Hp)) (x0 : Nat) (x2 : Int32) (x3 : Int32) (x4 : Int32) (h : Hp) : Option (Int32 × Hp) :=
  if x2 < x4 then (fX7_removeRange_37 x0 x3 h) else (if (64 : Int32) ≤ x4 then (fX7_removeRange_37 x0 x3 h) else (if hK h x0 = some (7, 0) then (bd2 (fX7_remove x0 x4 h) fun z3 h3 => k9 x0 x2 (x3 + z3) (x4 + (1 : Int32)) h3) else none))
def fX7_removeRange_9 : Nat → Nat → Int32 → Int32 → Int32 → Hp → Option (Int32 × Hp)
  | 0 => fun _ _ _ _ _ => none
  | n + 1 => fX7_removeRange_9_body (fX7_removeRange_9 n)
def fX7_removeRange (x0 : Nat) (x1 : Int32) (x2 : Int32) (h : Hp) : Option (Int32 × Hp) :=
  fX7_removeRange_9 LF x0 x2 (0 : Int32) (mx x1 (0 : Int32)) h
def fX7_keyField (x0 : Nat) (x1 : Int32) (x2 : Int32) (h : Hp) : Option (Int32 × Hp) :=
  bd2 (fX9_isKey x1 h) fun z1 h1 => if z1 = 0 then (some ((0 : Int32), h1)) else (if x2 = (0 : Int32) then (bd (gR h1 7 5 x0) fun z6 => onR z6 (none) fun a7 => bd (ldI h1 11 a7 x1) fun z8 => some (z8, h1)) else (if x2 = (1 : Int32) then (bd (gR h1 7 6 x0) fun z9 => onR z9 (none) fun a10 => bd (ldI h1 11 a10 x1) fun z11 => some (z11, h1)) else (if x2 = (2 : Int32) then (bd (gR h1 7 7 x0) fun z12 => onR z12 (none) fun a13 => bd (ldI h1 11 a13 x1) fun z14 => some (z14, h1)) else (if x2 = (3 : Int32) then (bd (gR h1 7 8 x0) fun z15 => onR z15 (none) fun a16 => bd (ldI h1 11 a16 x1) fun z17 => some (z17, h1)) else (bd (gR h1 7 9 x0) fun z3 => onR z3 (none) fun a4 => bd (ldI h1 11 a4 x1) fun z5 => some (z5, h1))))))
def fX7_compares (x0 : Int32) (x1 : Int32) (x2 : Int32) (h : Hp) : Option (Int32 × Hp) :=
  if x1 = 0 then (if x0 = x2 then (some ((1 : Int32), h)) else (some ((0 : Int32), h))) else (if x1 = (1 : Int32) then (if x2 ≤ x0 then (some ((0 : Int32), h)) else (some ((1 : Int32), h))) else (if x0 ≤ x2 then (some ((0 : Int32), h)) else (some ((1 : Int32), h))))
def fX7_compareAndPut (x0 : Nat) (x1 : Nat) (h : Hp) : Option (Int32 × Hp) :=
  bd (gI h 0 1 x1) fun z1 => bd (gI h 0 2 x1) fun z2 => if hK h x0 = some (7, 0) then (bd2 (fX7_keyField x0 z1 z2 h) fun z3 h3 => bd (gI h3 0 3 x1) fun z4 => bd (gI h3 0 4 x1) fun z5 => bd2 (fX7_compares z3 z4 z5 h3) fun z6 h6 => if z6 = 0 then (bd (gI h6 0 5 x1) fun z8 => if hK h6 x0 = some (7, 0) then (bd2 (fX7_remove x0 z8 h6) fun z9 h9 => if hK h9 x0 = some (7, 0) then (bd2 (fX7_endRevision x0 z9 h9) fun _ h10 => some ((0 : Int32), h10)) else none) else none) else (bd (gI h6 0 5 x1) fun z11 => bd (gI h6 0 6 x1) fun z12 => if hK h6 x0 = some (7, 0) then (bd2 (fX7_put x0 z11 z12 (0 : Int32) h6) fun _ h13 => some ((1 : Int32), h13)) else none)) else none
def fX7_grant (x0 : Nat) (x1 : Int32) (x2 : Int32) (h : Hp) : Option (Int32 × Hp) :=
  bd2 (fX9_isLease x1 h) fun z1 h1 => if z1 = 0 then (some ((0 : Int32), h1)) else (if hK h1 x0 = some (7, 0) then (bd2 (fX7_hasLease x0 x1 h1) fun z3 h3 => if z3 = 0 then (bd (gI h3 7 12 x0) fun z5 => bd2 (fX7_bitOfLease x1 h3) fun z6 h6 => bd (pI h6 7 12 x0 (z5 ||| z6)) fun h7 => bd (gR h7 7 13 x0) fun z8 => onR z8 (none) fun a9 => bd (gI h7 7 4 x0) fun z10 => bd (stI h7 11 a9 x1 (z10 + x2)) fun h11 => some ((1 : Int32), h11)) else (some ((0 : Int32), h3))) else none)
def fX7_revoke_53 (k29 : Nat → Int32 → Int32 → Int32 → Hp → Option (Int32 × Hp)) (x0 : Nat) (x1 : Int32) (x2 : Int32) (x3 : Int32) (h : Hp) : Option (Int32 × Hp) :=
  k29 x0 x1 x2 (x3 + (1 : Int32)) h
def fX7_revoke_29_body (k29 : Nat → Int32 → Int32 → Int32 → Hp → Option (Int32 × Hp)) (x0 : Nat) (x1 : Int32) (x2 : Int32) (x3 : Int32) (h : Hp) : Option (Int32 × Hp) :=
  if (64 : Int32) ≤ x3 then (if hK h x0 = some (7, 0) then (bd2 (fX7_endRevision x0 x2 h) fun _ h2 => some (x2, h2)) else none) else (bd (gR h 7 9 x0) fun z3 => onR z3 (none) fun a4 => bd (ldI h 11 a4 x3) fun z5 => if z5 = x1 then (if hK h x0 = some (7, 0) then (bd2 (fX7_remove x0 x3 h) fun z7 h7 => fX7_revoke_53 k29 x0 x1 (x2 + z7) x3 h7) else none) else (fX7_revoke_53 k29 x0 x1 x2 x3 h))
def fX7_revoke_29 : Nat → Nat → Int32 → Int32 → Int32 → Hp → Option (Int32 × Hp)
  | 0 => fun _ _ _ _ _ => none
  | n + 1 => fX7_revoke_29_body (fX7_revoke_29 n)
def fX7_revoke (x0 : Nat) (x1 : Int32) (h : Hp) : Option (Int32 × Hp) :=
  if hK h x0 = some (7, 0) then (bd2 (fX7_hasLease x0 x1 h) fun z1 h1 => if z1 = 0 then (some ((-1 : Int32), h1)) else (bd (gI h1 7 12 x0) fun z3 => bd2 (fX7_bitOfLease x1 h1) fun z4 h4 => bd (pI h4 7 12 x0 (z3 &&& (z4 ^^^ (-1 : Int32)))) fun h5 => fX7_revoke_29 LF x0 x1 (0 : Int32) (0 : Int32) h5)) else none
def fX7_renew (x0 : Nat) (x1 : Int32) (x2 : Int32) (h : Hp) : Option (Int32 × Hp) :=
  if hK h x0 = some (7, 0) then (bd2 (fX7_hasLease x0 x1 h) fun z1 h1 => if z1 = 0 then (some ((0 : Int32), h1)) else (bd (gR h1 7 13 x0) fun z3 => onR z3 (none) fun a4 => bd (gI h1 7 4 x0) fun z5 => bd (stI h1 11 a4 x1 (z5 + x2)) fun h6 => some ((1 : Int32), h6))) else none
def fX7_tick_45 (k12 : Nat → Int32 → Hp → Option (Int32 × Hp)) (x0 : Nat) (x1 : Int32) (h : Hp) : Option (Int32 × Hp) :=
  k12 x0 (x1 + (1 : Int32)) h
def fX7_tick_12_body (k12 : Nat → Int32 → Hp → Option (Int32 × Hp)) (x0 : Nat) (x1 : Int32) (h : Hp) : Option (Int32 × Hp) :=
  if (8 : Int32) < x1 then (bd (gI h 7 4 x0) fun z2 => some (z2, h)) else (if hK h x0 = some (7, 0) then (bd2 (fX7_hasLease x0 x1 h) fun z3 h3 => if z3 = 0 then (fX7_tick_45 k12 x0 x1 h3) else (bd (gR h3 7 13 x0) fun z5 => onR z5 (none) fun a6 => bd (ldI h3 11 a6 x1) fun z7 => bd (gI h3 7 4 x0) fun z8 => if z8 < z7 then (fX7_tick_45 k12 x0 x1 h3) else (if hK h3 x0 = some (7, 0) then (bd2 (fX7_revoke x0 x1 h3) fun z10 h10 => fX7_tick_45 k12 x0 x1 h10) else none))) else none)
def fX7_tick_12 : Nat → Nat → Int32 → Hp → Option (Int32 × Hp)
  | 0 => fun _ _ _ => none
  | n + 1 => fX7_tick_12_body (fX7_tick_12 n)
def fX7_tick (x0 : Nat) (h : Hp) : Option (Int32 × Hp) :=
  bd (gI h 7 4 x0) fun z1 => bd (pI h 7 4 x0 (z1 + (1 : Int32))) fun h2 => fX7_tick_12 LF x0 (1 : Int32) h2
def fX7_isPut (x0 : Int64) (h : Hp) : Option (Int32 × Hp) :=
  if (lg_cmp x0 (0 : Int64)) < 0 then (some ((0 : Int32), h)) else (some ((1 : Int32), h))
def fX7_revisionOf (x0 : Int64) (h : Hp) : Option (Int32 × Hp) :=
  bd2 (fX7_isPut x0 h) fun z1 h1 => if z1 = 0 then (some (((((-1 : Int64) - x0) >>> ((6 : Int32).toInt64 &&& 63)).toInt32), h1)) else (some (((x0 >>> ((38 : Int32).toInt64 &&& 63)).toInt32), h1))
def fX7_keyOf (x0 : Int64) (h : Hp) : Option (Int32 × Hp) :=
  bd2 (fX7_isPut x0 h) fun z1 h1 => if z1 = 0 then (some (((((-1 : Int64) - x0) &&& (63 : Int64)).toInt32), h1)) else (some ((((x0 >>> ((32 : Int32).toInt64 &&& 63)) &&& (63 : Int64)).toInt32), h1))
def fX7_valueOf (x0 : Int64) (h : Hp) : Option (Int32 × Hp) :=
  bd2 (fX7_isPut x0 h) fun z1 h1 => if z1 = 0 then (some ((0 : Int32), h1)) else (some ((x0.toInt32), h1))
def fX7_forgetCompacted_96 (x0 : Nat) (x1 : Int32) (h : Hp) : Option (Unit × Hp) :=
  bd (gR h 7 2 x0) fun z1 => onR z1 (none) fun a2 => bd (gR h 7 2 x0) fun z3 => onR z3 (none) fun a4 => bd (gI h 7 3 x0) fun z5 => bd (cpL h 12 a2 a4 x1 (0 : Int32) (z5 - x1)) fun h6 => bd (gI h6 7 3 x0) fun z7 => bd (pI h6 7 3 x0 (z7 - x1)) fun h8 => some ((), h8)
def fX7_forgetCompacted_72 (k2 : Nat → Int32 → Hp → Option (Unit × Hp)) (x0 : Nat) (x1 : Int32) (x2 : Int32) (y0 : Int64) (y1 : Nat) (h : Hp) : Option (Unit × Hp) :=
  bd (pL h 7 10 y1 y0) fun h1 => bd (gR h1 7 11 x0) fun z2 => onR z2 (none) fun a3 => bd (gR h1 7 2 x0) fun z4 => onR z4 (none) fun a5 => bd (ldL h1 12 a5 x1) fun z6 => bd2 (fX7_valueOf z6 h1) fun z7 h7 => bd (stI h7 11 a3 x2 z7) fun h8 => k2 x0 (x1 + (1 : Int32)) h8
def fX7_forgetCompacted_2_body (k2 : Nat → Int32 → Hp → Option (Unit × Hp)) (x0 : Nat) (x1 : Int32) (h : Hp) : Option (Unit × Hp) :=
  bd (gI h 7 3 x0) fun z1 => if z1 ≤ x1 then (fX7_forgetCompacted_96 x0 x1 h) else (bd (gR h 7 2 x0) fun z3 => onR z3 (none) fun a4 => bd (ldL h 12 a4 x1) fun z5 => bd2 (fX7_revisionOf z5 h) fun z6 h6 => bd (gI h6 7 1 x0) fun z7 => if z7 < z6 then (fX7_forgetCompacted_96 x0 x1 h6) else (bd (gR h6 7 2 x0) fun z9 => onR z9 (none) fun a10 => bd (ldL h6 12 a10 x1) fun z11 => bd2 (fX7_keyOf z11 h6) fun z12 h12 => bd (gR h12 7 2 x0) fun z13 => onR z13 (none) fun a14 => bd (ldL h12 12 a14 x1) fun z15 => bd2 (fX7_isPut z15 h12) fun z16 h16 => if z16 = 0 then (bd (gL h16 7 10 x0) fun z18 => fX7_forgetCompacted_72 k2 x0 x1 z12 (z18 &&& (((1 : Int64) <<< (z12.toInt64 &&& 63)) ^^^ (-1 : Int64))) x0 h16) else (bd (gL h16 7 10 x0) fun z19 => fX7_forgetCompacted_72 k2 x0 x1 z12 (z19 ||| ((1 : Int64) <<< (z12.toInt64 &&& 63))) x0 h16)))
def fX7_forgetCompacted_2 : Nat → Nat → Int32 → Hp → Option (Unit × Hp)
  | 0 => fun _ _ _ => none
  | n + 1 => fX7_forgetCompacted_2_body (fX7_forgetCompacted_2 n)
def fX7_forgetCompacted (x0 : Nat) (h : Hp) : Option (Unit × Hp) :=
  fX7_forgetCompacted_2 LF x0 (0 : Int32) h
def fX7_compact (x0 : Nat) (x1 : Int32) (h : Hp) : Option (Int32 × Hp) :=
  bd (gI h 7 1 x0) fun z1 => if x1 ≤ z1 then (some ((0 : Int32), h)) else (bd (gI h 7 0 x0) fun z3 => if x1 ≤ z3 then (bd (pI h 7 1 x0 x1) fun h5 => if hK h5 x0 = some (7, 0) then (bd2 (fX7_forgetCompacted x0 h5) fun _ h6 => some ((1 : Int32), h6)) else none) else (some ((0 : Int32), h)))
