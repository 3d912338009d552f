def gX10_at (x1 : Int32) (x2 : Int32) (s : MS) : Option (Int32 × MS) :=
  some ((((x1 * (1201 : Int32)) + x2) * (8 : Int32)), s)
def gX10_termAt (x1 : Int32) (x2 : Int32) (s : MS) : Option (Int32 × MS) :=
  bdm (gX10_at x1 x2 s) fun z1 s1 => bd (ldA s1 11 13 z1) fun z2 => some (z2, s1)
def gX10_made (x1 : Int32) (x2 : Int32) (x3 : Int32) (s : MS) : Option (Int32 × MS) :=
  bd (rdF s 24) fun z1 => if z1 = (3000 : Int32) then (some ((-1 : Int32), s)) else (bd (rdF s 24) fun z2 => bd (stA s 11 15 z2 x1) fun s3 => bd (rdF s3 24) fun z4 => bd (stA s3 11 16 z4 x2) fun s5 => bd (rdF s5 24) fun z6 => bd (stA s5 11 17 z6 x3) fun s7 => bd (rdF s7 24) fun z8 => bd (ldA s7 11 2 x2) fun z9 => bd (stA s7 11 18 z8 z9) fun s10 => bd (rdF s10 24) fun z11 => bd (stA s10 11 19 z11 (0 : Int32)) fun s12 => bd (rdF s12 24) fun z13 => bd (stA s12 11 20 z13 (0 : Int32)) fun s14 => bd (rdF s14 24) fun z15 => bd (stA s14 11 21 z15 (0 : Int32)) fun s16 => bd (rdF s16 24) fun z17 => bd (stA s16 11 22 z17 (0 : Int32)) fun s18 => bd (rdF s18 24) fun z19 => bd (wrF s18 24 (z19 + (1 : Int32))) fun s20 => bd (rdF s20 24) fun z21 => some ((z21 - (1 : Int32)), s20))
def gX10_send_230_body (k230 : Int32 → Int32 → Int32 → Int32 → MS → Option (Unit × MS)) (x1 : Int32) (x3 : Int32) (x4 : Int32) (x5 : Int32) (s : MS) : Option (Unit × MS) :=
  bd (ldA s 11 21 x4) fun z1 => if (z1 * (8 : Int32)) ≤ x5 then (some ((), s)) else (bdm (gX10_at x1 (x3 + (1 : Int32)) s) fun z2 s2 => bd (ldA s2 11 13 (z2 + x5)) fun z3 => bd (stA s2 11 23 (((x4 * (4 : Int32)) * (8 : Int32)) + x5) z3) fun s4 => k230 x1 x3 x4 (x5 + (1 : Int32)) s4)
def gX10_send_230 : Nat → Int32 → Int32 → Int32 → Int32 → MS → Option (Unit × MS)
  | 0 => fun _ _ _ _ _ => none
  | n + 1 => gX10_send_230_body (gX10_send_230 n)
def gX10_send_93_body (k93 : Int32 → Int32 → MS → Option (Unit × MS)) (x1 : Int32) (x5 : Int32) (s : MS) : Option (Unit × MS) :=
  bd (ldA s 11 4 x1) fun z1 => if ((z1 + (1 : Int32)) * (8 : Int32)) ≤ x5 then (bd (rdF s 27) fun z2 => bd (wrF s 27 (z2 + (1 : Int32))) fun s3 => some ((), s3)) else (bd (rdF s 27) fun z4 => bdm (gX10_at x1 (0 : Int32) s) fun z5 s5 => bd (ldA s5 11 13 (z5 + x5)) fun z6 => bd (stA s5 11 24 (((z4 * (1201 : Int32)) * (8 : Int32)) + x5) z6) fun s7 => k93 x1 (x5 + (1 : Int32)) s7)
def gX10_send_93 : Nat → Int32 → Int32 → MS → Option (Unit × MS)
  | 0 => fun _ _ _ => none
  | n + 1 => gX10_send_93_body (gX10_send_93 n)
def gX10_send (x1 : Int32) (x2 : Int32) (s : MS) : Option (Unit × MS) :=
  bd (ldA s 11 11 (((5 : Int32) * x1) + x2)) fun z1 => bd (ldA s 11 4 x1) fun z2 => if z2 ≤ (z1 - (1 : Int32)) then (bdm (gX10_made (2 : Int32) x1 x2 s) fun z3 s3 => if 0 ≤ z3 then (bd (stA s3 11 19 z3 (z1 - (1 : Int32))) fun s4 => bdm (gX10_termAt x1 (z1 - (1 : Int32)) s4) fun z5 s5 => bd (stA s5 11 20 z3 z5) fun s6 => bd (ldA s6 11 5 x1) fun z7 => bd (stA s6 11 21 z3 (mn (4 : Int32) (z7 - (z1 - (1 : Int32))))) fun s8 => bd (ldA s8 11 6 x1) fun z9 => bd (stA s8 11 22 z3 z9) fun s10 => gX10_send_230 LF x1 (z1 - (1 : Int32)) z3 (0 : Int32) s10) else (some ((), s3))) else (bd (rdF s 27) fun z11 => if z11 = (60 : Int32) then (some ((), s)) else (bdm (gX10_made (5 : Int32) x1 x2 s) fun z12 s12 => if 0 ≤ z12 then (bd (ldA s12 11 4 x1) fun z13 => bd (stA s12 11 19 z12 z13) fun s14 => bd (ldA s14 11 4 x1) fun z15 => bdm (gX10_termAt x1 z15 s14) fun z16 s16 => bd (stA s16 11 20 z12 z16) fun s17 => bd (rdF s17 27) fun z18 => bd (stA s17 11 25 z12 z18) fun s19 => gX10_send_93 LF x1 (0 : Int32) s19) else (some ((), s12))))
def gX10_accepted_130 (k50 : Int32 → Int32 → Int32 → Int32 → Int32 → MS → Option (Unit × MS)) (x1 : Int32) (x2 : Int32) (x4 : Int32) (x5 : Int32) (x6 : Int32) (s : MS) : Option (Unit × MS) :=
  k50 x1 x2 x4 x5 (x6 + (1 : Int32)) s
def gX10_accepted_98 (k67 : Int32 → Int32 → Int32 → Int32 → Int32 → Int32 → Int32 → MS → Option (Unit × MS)) (x1 : Int32) (x2 : Int32) (x4 : Int32) (x5 : Int32) (x6 : Int32) (x7 : Int32) (x8 : Int32) (s : MS) : Option (Unit × MS) :=
  k67 x1 x2 x4 x5 x6 x7 (x8 + (1 : Int32)) s
def gX10_accepted_67_body (k50 : Int32 → Int32 → Int32 → Int32 → Int32 → MS → Option (Unit × MS)) (k67 : Int32 → Int32 → Int32 → Int32 → Int32 → Int32 → Int32 → MS → Option (Unit × MS)) (x1 : Int32) (x2 : Int32) (x4 : Int32) (x5 : Int32) (x6 : Int32) (x7 : Int32) (x8 : Int32) (s : MS) : Option (Unit × MS) :=
  if (5 : Int32) ≤ x8 then (if x7 < (2 : Int32) then (gX10_accepted_130 k50 x1 x2 x4 x5 x6 s) else (bdm (gX10_termAt x1 x6 s) fun z1 s1 => bd (ldA s1 11 2 x1) fun z2 => if z1 = z2 then (gX10_accepted_130 k50 x1 x2 x4 x6 x6 s1) else (gX10_accepted_130 k50 x1 x2 x4 x5 x6 s1))) else (if x8 = x1 then (gX10_accepted_98 k67 x1 x2 x4 x5 x6 x7 x8 s) else (bd (ldA s 11 12 (((5 : Int32) * x1) + x8)) fun z3 => if z3 < x6 then (gX10_accepted_98 k67 x1 x2 x4 x5 x6 x7 x8 s) else (gX10_accepted_98 k67 x1 x2 x4 x5 x6 (x7 + (1 : Int32)) x8 s)))
def gX10_accepted_67 (k50 : Int32 → Int32 → Int32 → Int32 → Int32 → MS → Option (Unit × MS)) : Nat → Int32 → Int32 → Int32 → Int32 → Int32 → Int32 → Int32 → MS → Option (Unit × MS)
  | 0 => fun _ _ _ _ _ _ _ _ => none
  | n + 1 => gX10_accepted_67_body k50 (gX10_accepted_67 k50 n)
def gX10_accepted_50_body (k50 : Int32 → Int32 → Int32 → Int32 → Int32 → MS → Option (Unit × MS)) (x1 : Int32) (x2 : Int32) (x4 : Int32) (x5 : Int32) (x6 : Int32) (s : MS) : Option (Unit × MS) :=
  bd (ldA s 11 5 x1) fun z1 => if z1 < x6 then (bd (stA s 11 6 x1 x5) fun s2 => bd (ldA s2 11 11 x4) fun z3 => bd (ldA s2 11 5 x1) fun z4 => if z4 < z3 then (some ((), s2)) else (bdm (gX10_send x1 x2 s2) fun _ s5 => some ((), s5))) else (gX10_accepted_67 k50 LF x1 x2 x4 x5 x6 (0 : Int32) (0 : Int32) s)
def gX10_accepted_50 : Nat → Int32 → Int32 → Int32 → Int32 → Int32 → MS → Option (Unit × MS)
  | 0 => fun _ _ _ _ _ _ => none
  | n + 1 => gX10_accepted_50_body (gX10_accepted_50 n)
def gX10_accepted_36 (x1 : Int32) (x2 : Int32) (x4 : Int32) (s : MS) : Option (Unit × MS) :=
  bd (ldA s 11 6 x1) fun z1 => gX10_accepted_50 LF x1 x2 x4 z1 (z1 + (1 : Int32)) s
def gX10_accepted (x1 : Int32) (x2 : Int32) (x3 : Int32) (s : MS) : Option (Unit × MS) :=
  bd (ldA s 11 12 (((5 : Int32) * x1) + x2)) fun z1 => if x3 ≤ z1 then (gX10_accepted_36 x1 x2 (((5 : Int32) * x1) + x2) s) else (bd (stA s 11 12 (((5 : Int32) * x1) + x2) x3) fun s2 => bd (stA s2 11 11 (((5 : Int32) * x1) + x2) (x3 + (1 : Int32))) fun s3 => gX10_accepted_36 x1 x2 (((5 : Int32) * x1) + x2) s3)
def gX10_down (x1 : Int32) (s : MS) : Option (Unit × MS) :=
  bd (stB s 13 1 x1 (0 : Int32)) fun s1 => bd (stA s1 11 8 x1 (0 : Int32)) fun s2 => bd (stA s2 11 10 x1 (-1 : Int32)) fun s3 => some ((), s3)
def gX10_record (x1 : Int32) (s : MS) : Option (Int32 × MS) :=
  bd (ldA s 11 10 x1) fun z1 => if z1 = 0 then (bdm (gX10_down x1 s) fun _ s5 => some ((0 : Int32), s5)) else (bd (ldA s 11 10 x1) fun z2 => if z2 ≤ 0 then (some ((1 : Int32), s)) else (bd (ldA s 11 10 x1) fun z3 => bd (stA s 11 10 x1 (z3 - (1 : Int32))) fun s4 => some ((1 : Int32), s4)))
def gX10_comes_13_body (k13 : Int32 → Int32 → Nat → Int32 → Int32 → MS → Option (Int32 × MS)) (x1 : Int32) (x2 : Int32) (x3 : Nat) (x4 : Int32) (x5 : Int32) (s : MS) : Option (Int32 × MS) :=
  if (8 : Int32) ≤ x5 then (bd (stA s 11 5 x1 x2) fun s1 => some ((1 : Int32), s1)) else (bdm (gX10_at x1 x2 s) fun z2 s2 => bd (ldA s2 11 x3 (x4 + x5)) fun z3 => bd (stA s2 11 13 (z2 + x5) z3) fun s4 => k13 x1 x2 x3 x4 (x5 + (1 : Int32)) s4)
def gX10_comes_13 : Nat → Int32 → Int32 → Nat → Int32 → Int32 → MS → Option (Int32 × MS)
  | 0 => fun _ _ _ _ _ _ => none
  | n + 1 => gX10_comes_13_body (gX10_comes_13 n)
def gX10_comes (x1 : Int32) (x2 : Int32) (x3 : Nat) (x4 : Int32) (s : MS) : Option (Int32 × MS) :=
  bdm (gX10_record x1 s) fun z1 s1 => if z1 = 0 then (some ((0 : Int32), s1)) else (gX10_comes_13 LF x1 x2 x3 x4 (0 : Int32) s1)
def gX10_adds (x1 : Int32) (x2 : Int32) (x3 : Int32) (x4 : Int32) (x5 : Int32) (x6 : Int32) (x7 : Int32) (x8 : Int32) (s : MS) : Option (Int32 × MS) :=
  bd (ldA s 11 2 x1) fun z1 => bd (stA s 11 26 (0 : Int32) z1) fun s2 => bd (stA s2 11 26 (1 : Int32) x2) fun s3 => bd (stA s3 11 26 (2 : Int32) x3) fun s4 => bd (stA s4 11 26 (3 : Int32) x4) fun s5 => bd (stA s5 11 26 (4 : Int32) x5) fun s6 => bd (stA s6 11 26 (5 : Int32) x6) fun s7 => bd (stA s7 11 26 (6 : Int32) x7) fun s8 => bd (stA s8 11 26 (7 : Int32) x8) fun s9 => bd (ldA s9 11 5 x1) fun z10 => bdm (gX10_comes x1 (z10 + (1 : Int32)) 26 (0 : Int32) s9) fun z11 s11 => if z11 = 0 ∨ z11 = 1 then some (z11, s11) else none
def gX10_answer (x1 : Int32) (x2 : Int32) (x3 : Int32) (x4 : Int32) (s : MS) : Option (Unit × MS) :=
  bdm (gX10_made x1 x2 x3 s) fun z1 s1 => if z1 < 0 then (some ((), s1)) else (bd (stA s1 11 19 z1 x4) fun s2 => some ((), s2))
def gX10_appends_225 (k152 : Int32 → Int32 → Int32 → Int32 → Int32 → MS → Option (Unit × MS)) (x1 : Int32) (x2 : Int32) (x3 : Int32) (x7 : Int32) (x8 : Int32) (s : MS) : Option (Unit × MS) :=
  k152 x1 x2 x3 x7 (x8 + (1 : Int32)) s
def gX10_appends_208 (k152 : Int32 → Int32 → Int32 → Int32 → Int32 → MS → Option (Unit × MS)) (x1 : Int32) (x2 : Int32) (x3 : Int32) (x7 : Int32) (x8 : Int32) (x9 : Int32) (s : MS) : Option (Unit × MS) :=
  bdm (gX10_comes x2 x7 23 x9 s) fun z1 s1 => if z1 = 0 then (some ((), s1)) else (gX10_appends_225 k152 x1 x2 x3 x7 x8 s1)
def gX10_appends_152_body (k152 : Int32 → Int32 → Int32 → Int32 → Int32 → MS → Option (Unit × MS)) (x1 : Int32) (x2 : Int32) (x3 : Int32) (x7 : Int32) (x8 : Int32) (s : MS) : Option (Unit × MS) :=
  bd (ldA s 11 21 x1) fun z1 => if z1 ≤ x8 then (bd (ldA s 11 6 x2) fun z2 => bd (ldA s 11 22 x1) fun z3 => bd (stA s 11 6 x2 (mx z2 (mn z3 x7))) fun s4 => bd (ldA s4 11 4 x2) fun z5 => bdm (gX10_answer (3 : Int32) x2 x3 (mx x7 z5) s4) fun _ s6 => some ((), s6)) else (bd (ldA s 11 5 x2) fun z7 => if z7 < (x7 + (1 : Int32)) then (gX10_appends_208 k152 x1 x2 x3 (x7 + (1 : Int32)) x8 (((x1 * (4 : Int32)) + x8) * (8 : Int32)) s) else (bdm (gX10_termAt x2 (x7 + (1 : Int32)) s) fun z8 s8 => bd (ldA s8 11 23 (((x1 * (4 : Int32)) + x8) * (8 : Int32))) fun z9 => if z8 = z9 then (gX10_appends_225 k152 x1 x2 x3 (x7 + (1 : Int32)) x8 s8) else (gX10_appends_208 k152 x1 x2 x3 (x7 + (1 : Int32)) x8 (((x1 * (4 : Int32)) + x8) * (8 : Int32)) s8)))
def gX10_appends_152 : Nat → Int32 → Int32 → Int32 → Int32 → Int32 → MS → Option (Unit × MS)
  | 0 => fun _ _ _ _ _ _ => none
  | n + 1 => gX10_appends_152_body (gX10_appends_152 n)
def gX10_appends_144 (x1 : Int32) (x2 : Int32) (x3 : Int32) (x4 : Int32) (x5 : Int32) (s : MS) : Option (Unit × MS) :=
  gX10_appends_152 LF x1 x2 x3 x4 x5 s
def gX10_appends_86 (x1 : Int32) (x2 : Int32) (x3 : Int32) (x4 : Int32) (x5 : Int32) (x6 : Int32) (s : MS) : Option (Unit × MS) :=
  bd (ldA s 11 5 x2) fun z1 => if x4 ≤ z1 then (if x6 = 0 then (bdm (gX10_termAt x2 x4 s) fun z2 s2 => bd (ldA s2 11 20 x1) fun z3 => if z2 = z3 then (gX10_appends_144 x1 x2 x3 x4 x5 s2) else (bdm (gX10_answer (4 : Int32) x2 x3 (x4 - (1 : Int32)) s2) fun _ s4 => some ((), s4))) else (gX10_appends_144 x1 x2 x3 x4 x5 s)) else (bd (ldA s 11 5 x2) fun z5 => bdm (gX10_answer (4 : Int32) x2 x3 z5 s) fun _ s6 => some ((), s6))
def gX10_appends_67 (x1 : Int32) (x2 : Int32) (x3 : Int32) (x4 : Int32) (x5 : Int32) (x6 : Int32) (s : MS) : Option (Unit × MS) :=
  bd (ldA s 11 4 x2) fun z1 => if z1 ≤ x4 then (gX10_appends_86 x1 x2 x3 x4 x5 x6 s) else (bd (ldA s 11 4 x2) fun z2 => gX10_appends_86 x1 x2 x3 z2 x5 x6 s)
def gX10_appends_36_body (k36 : Int32 → Int32 → Int32 → Int32 → Int32 → Int32 → MS → Option (Unit × MS)) (x1 : Int32) (x2 : Int32) (x3 : Int32) (x4 : Int32) (x5 : Int32) (x6 : Int32) (s : MS) : Option (Unit × MS) :=
  bd (ldA s 11 21 x1) fun z1 => if z1 ≤ x5 then (gX10_appends_67 x1 x2 x3 x4 x5 x6 s) else (bd (ldA s 11 4 x2) fun z2 => if z2 ≤ x4 then (gX10_appends_67 x1 x2 x3 x4 x5 x6 s) else (k36 x1 x2 x3 (x4 + (1 : Int32)) (x5 + (1 : Int32)) x6 s))
def gX10_appends_36 : Nat → Int32 → Int32 → Int32 → Int32 → Int32 → Int32 → MS → Option (Unit × MS)
  | 0 => fun _ _ _ _ _ _ _ => none
  | n + 1 => gX10_appends_36_body (gX10_appends_36 n)
def gX10_appends_34 (x1 : Int32) (x2 : Int32) (x3 : Int32) (x4 : Int32) (x5 : Int32) (y0 : Int32) (s : MS) : Option (Unit × MS) :=
  gX10_appends_36 LF x1 x2 x3 x4 x5 y0 s
def gX10_appends (x1 : Int32) (x2 : Int32) (x3 : Int32) (s : MS) : Option (Unit × MS) :=
  bd (stA s 11 8 x2 (0 : Int32)) fun s1 => bd (ldA s1 11 19 x1) fun z2 => bd (ldA s1 11 4 x2) fun z3 => if z3 ≤ z2 then (gX10_appends_34 x1 x2 x3 z2 (0 : Int32) (0 : Int32) s1) else (gX10_appends_34 x1 x2 x3 z2 (0 : Int32) (1 : Int32) s1)
def gX10_asked_122 (y0 : Int32) (y1 : Int32) (y2 : Int32) (y3 : Int32) (s : MS) : Option (Unit × MS) :=
  bdm (gX10_answer y3 y2 y1 y0 s) fun _ s1 => some ((), s1)
def gX10_asked_108 (x2 : Int32) (x3 : Int32) (x5 : Int32) (s : MS) : Option (Unit × MS) :=
  if x5 = 0 then (gX10_asked_122 (0 : Int32) x3 x2 (1 : Int32) s) else (gX10_asked_122 (1 : Int32) x3 x2 (1 : Int32) s)
def gX10_asked_75 (x2 : Int32) (x3 : Int32) (y0 : Int32) (s : MS) : Option (Unit × MS) :=
  if y0 = 0 then (gX10_asked_108 x2 x3 y0 s) else (bd (ldA s 11 3 x2) fun z1 => if z1 = x3 then (gX10_asked_108 x2 x3 y0 s) else (bdm (gX10_record x2 s) fun z2 s2 => if z2 = 0 then (some ((), s2)) else (bd (stA s2 11 3 x2 x3) fun s3 => gX10_asked_108 x2 x3 y0 s3)))
def gX10_asked_74 (x2 : Int32) (x3 : Int32) (s : MS) : Option (Unit × MS) :=
  gX10_asked_75 x2 x3 (0 : Int32) s
def gX10_asked_70 (x2 : Int32) (x3 : Int32) (s : MS) : Option (Unit × MS) :=
  gX10_asked_75 x2 x3 (1 : Int32) s
def gX10_asked_33 (x1 : Int32) (x2 : Int32) (x3 : Int32) (x4 : Int32) (s : MS) : Option (Unit × MS) :=
  bd (ldA s 11 20 x1) fun z1 => if x4 < z1 then (gX10_asked_70 x2 x3 s) else (bd (ldA s 11 20 x1) fun z2 => if z2 = x4 then (bd (ldA s 11 19 x1) fun z3 => bd (ldA s 11 5 x2) fun z4 => if z3 < z4 then (gX10_asked_74 x2 x3 s) else (gX10_asked_70 x2 x3 s)) else (gX10_asked_74 x2 x3 s))
def gX10_asked (x1 : Int32) (x2 : Int32) (x3 : Int32) (s : MS) : Option (Unit × MS) :=
  bd (ldA s 11 5 x2) fun z1 => bdm (gX10_termAt x2 z1 s) fun z2 s2 => bd (ldA s2 11 3 x2) fun z3 => if z3 = (-1 : Int32) then (gX10_asked_33 x1 x2 x3 z2 s2) else (bd (ldA s2 11 3 x2) fun z4 => if z4 = x3 then (gX10_asked_33 x1 x2 x3 z2 s2) else (gX10_asked_74 x2 x3 s2))
def gX10_bad (x1 : Int32) (x2 : Int32) (s : MS) : Option (Int32 × MS) :=
  if x1 = 0 then (bd (wrF s 0 (0 : Int32)) fun s1 => if x1 = 0 ∨ x1 = 1 then some (x1, s1) else none) else (bd (wrF s 0 x2) fun s2 => if x1 = 0 ∨ x1 = 1 then some (x1, s2) else none)
def gX10_isNode (x0 : Int32) (s : MS) : Option (Int32 × MS) :=
  if x0 < 0 then (some ((0 : Int32), s)) else (if (5 : Int32) ≤ x0 then (some ((0 : Int32), s)) else (some ((1 : Int32), s)))
def gX10_sendAll_18 (k2 : Int32 → Int32 → MS → Option (Unit × MS)) (x1 : Int32) (x2 : Int32) (s : MS) : Option (Unit × MS) :=
  k2 x1 (x2 + (1 : Int32)) s
def gX10_sendAll_2_body (k2 : Int32 → Int32 → MS → Option (Unit × MS)) (x1 : Int32) (x2 : Int32) (s : MS) : Option (Unit × MS) :=
  if (5 : Int32) ≤ x2 then (some ((), s)) else (if x2 = x1 then (gX10_sendAll_18 k2 x1 x2 s) else (bdm (gX10_send x1 x2 s) fun _ s1 => gX10_sendAll_18 k2 x1 x2 s1))
def gX10_sendAll_2 : Nat → Int32 → Int32 → MS → Option (Unit × MS)
  | 0 => fun _ _ _ => none
  | n + 1 => gX10_sendAll_2_body (gX10_sendAll_2 n)
def gX10_sendAll (x1 : Int32) (s : MS) : Option (Unit × MS) :=
  gX10_sendAll_2 LF x1 (0 : Int32) s
def gX10_beat_45 (x1 : Int32) (y0 : Int32) (s : MS) : Option (Int32 × MS) :=
  bdm (gX10_bad y0 (2 : Int32) s) fun z1 s1 => if z1 = 0 then (bd (rdF s1 24) fun z2 => bdm (gX10_sendAll x1 s1) fun _ s3 => bd (rdF s3 24) fun z4 => some ((z4 - z2), s3)) else (some ((0 : Int32), s1))
def gX10_beat_40 (x1 : Int32) (s : MS) : Option (Int32 × MS) :=
  gX10_beat_45 x1 (1 : Int32) s
def gX10_beat_13 (x1 : Int32) (y0 : Int32) (s : MS) : Option (Int32 × MS) :=
  bdm (gX10_bad y0 (1 : Int32) s) fun z1 s1 => if z1 = 0 then (bd (ldA s1 13 1 x1) fun z2 => if z2 = 0 then (gX10_beat_40 x1 s1) else (bd (ldA s1 11 8 x1) fun z3 => if z3 = (2 : Int32) then (gX10_beat_45 x1 (0 : Int32) s1) else (gX10_beat_40 x1 s1))) else (some ((0 : Int32), s1))
def gX10_beat (x1 : Int32) (s : MS) : Option (Int32 × MS) :=
  bdm (gX10_isNode x1 s) fun z1 s1 => if z1 = 0 then (gX10_beat_13 x1 (1 : Int32) s1) else (gX10_beat_13 x1 (0 : Int32) s1)
def gX10_check  (s : MS) : Option (Int32 × MS) :=
  bd (wrF s 0 (0 : Int32)) fun s1 => some ((0 : Int32), s1)
def gX10_coded (x1 : Int32) (s : MS) : Option (Int64 × MS) :=
  bd (ldA s 13 37 x1) fun z1 => if z1 = 0 then (bd (ldA s 11 34 x1) fun z2 => bd (ldA s 11 35 x1) fun z3 => some (((-1 : Int64) - (((64 : Int64) * (z2.toInt64)) + (z3.toInt64))), s)) else (bd (ldA s 11 34 x1) fun z4 => bd (ldA s 11 35 x1) fun z5 => bd (ldA s 11 36 x1) fun z6 => some (((((z4.toInt64) <<< ((38 : Int32).toInt64 &&& 63)) + ((z5.toInt64) <<< ((32 : Int32).toInt64 &&& 63))) + ((z6.toInt64) &&& (4294967295 : Int64))), s))
def gX10_counts_130 (x1 : Int32) (s : MS) : Option (Unit × MS) :=
  bdm (gX10_sendAll x1 s) fun _ s1 => some ((), s1)
def gX10_counts_59_body (k59 : Int32 → Int32 → MS → Option (Unit × MS)) (x1 : Int32) (x4 : Int32) (s : MS) : Option (Unit × MS) :=
  if (5 : Int32) ≤ x4 then (bd (ldA s 11 5 x1) fun z1 => if (1200 : Int32) ≤ z1 then (gX10_counts_130 x1 s) else (bdm (gX10_adds x1 (0 : Int32) (0 : Int32) (0 : Int32) (0 : Int32) (0 : Int32) (0 : Int32) (0 : Int32) s) fun z2 s2 => if z2 = 0 then (some ((), s2)) else (gX10_counts_130 x1 s2))) else (bd (ldA s 11 5 x1) fun z3 => bd (stA s 11 11 (((5 : Int32) * x1) + x4) (z3 + (1 : Int32))) fun s4 => bd (stA s4 11 12 (((5 : Int32) * x1) + x4) (0 : Int32)) fun s5 => k59 x1 (x4 + (1 : Int32)) s5)
def gX10_counts_59 : Nat → Int32 → Int32 → MS → Option (Unit × MS)
  | 0 => fun _ _ _ => none
  | n + 1 => gX10_counts_59_body (gX10_counts_59 n)
def gX10_counts_17_body (k17 : Int32 → Int32 → Int32 → MS → Option (Unit × MS)) (x1 : Int32) (x3 : Int32) (x4 : Int32) (s : MS) : Option (Unit × MS) :=
  if (5 : Int32) ≤ x4 then (if (3 : Int32) ≤ x3 then (bd (stA s 11 8 x1 (2 : Int32)) fun s1 => gX10_counts_59 LF x1 (0 : Int32) s1) else (some ((), s))) else (bd (ldA s 11 9 x1) fun z2 => k17 x1 (x3 + ((z2 >>> (x4 &&& 31)) &&& (1 : Int32))) (x4 + (1 : Int32)) s)
def gX10_counts_17 : Nat → Int32 → Int32 → Int32 → MS → Option (Unit × MS)
  | 0 => fun _ _ _ _ => none
  | n + 1 => gX10_counts_17_body (gX10_counts_17 n)
def gX10_counts (x1 : Int32) (x2 : Int32) (s : MS) : Option (Unit × MS) :=
  bd (ldA s 11 9 x1) fun z1 => bd (stA s 11 9 x1 (z1 ||| ((1 : Int32) <<< (x2 &&& 31)))) fun s2 => gX10_counts_17 LF x1 (0 : Int32) (0 : Int32) s2
def gX10_crash_35 (x1 : Int32) (y0 : Int32) (s : MS) : Option (Unit × MS) :=
  bdm (gX10_bad y0 (2 : Int32) s) fun z1 s1 => if z1 = 0 then (bdm (gX10_down x1 s1) fun _ s2 => some ((), s2)) else (some ((), s1))
def gX10_crash_13 (x1 : Int32) (y0 : Int32) (s : MS) : Option (Unit × MS) :=
  bdm (gX10_bad y0 (1 : Int32) s) fun z1 s1 => if z1 = 0 then (bd (ldA s1 13 1 x1) fun z2 => if z2 = 0 then (gX10_crash_35 x1 (1 : Int32) s1) else (gX10_crash_35 x1 (0 : Int32) s1)) else (some ((), s1))
def gX10_crash (x1 : Int32) (s : MS) : Option (Unit × MS) :=
  bdm (gX10_isNode x1 s) fun z1 s1 => if z1 = 0 then (gX10_crash_13 x1 (1 : Int32) s1) else (gX10_crash_13 x1 (0 : Int32) s1)
def gX10_installs_176 (x1 : Int32) (x2 : Int32) (x3 : Int32) (s : MS) : Option (Unit × MS) :=
  bd (ldA s 11 19 x1) fun z1 => bd (stA s 11 6 x2 z1) fun s2 => bd (ldA s2 11 19 x1) fun z3 => bd (stA s2 11 7 x2 z3) fun s4 => bd (ldA s4 11 14 x2) fun z5 => bd (stA s4 11 14 x2 (z5 + (1 : Int32))) fun s6 => bd (ldA s6 11 19 x1) fun z7 => bdm (gX10_answer (3 : Int32) x2 x3 z7 s6) fun _ s8 => some ((), s8)
def gX10_installs_90_body (k90 : Int32 → Int32 → Int32 → Int32 → Int32 → MS → Option (Unit × MS)) (x1 : Int32) (x2 : Int32) (x3 : Int32) (x4 : Int32) (x5 : Int32) (s : MS) : Option (Unit × MS) :=
  bd (ldA s 11 19 x1) fun z1 => if ((z1 + (1 : Int32)) * (8 : Int32)) ≤ x5 then (bd (ldA s 11 19 x1) fun z2 => bd (stA s 11 4 x2 z2) fun s3 => if x4 = 0 then (bd (ldA s3 11 19 x1) fun z4 => bd (stA s3 11 5 x2 z4) fun s5 => gX10_installs_176 x1 x2 x3 s5) else (gX10_installs_176 x1 x2 x3 s3)) else (bdm (gX10_at x2 (0 : Int32) s) fun z6 s6 => bd (ldA s6 11 25 x1) fun z7 => bd (ldA s6 11 24 (((z7 * (1201 : Int32)) * (8 : Int32)) + x5)) fun z8 => bd (stA s6 11 13 (z6 + x5) z8) fun s9 => k90 x1 x2 x3 x4 (x5 + (1 : Int32)) s9)
def gX10_installs_90 : Nat → Int32 → Int32 → Int32 → Int32 → Int32 → MS → Option (Unit × MS)
  | 0 => fun _ _ _ _ _ _ => none
  | n + 1 => gX10_installs_90_body (gX10_installs_90 n)
def gX10_installs_85 (x1 : Int32) (x2 : Int32) (x3 : Int32) (y0 : Int32) (s : MS) : Option (Unit × MS) :=
  gX10_installs_90 LF x1 x2 x3 y0 (0 : Int32) s
def gX10_installs_84 (x1 : Int32) (x2 : Int32) (x3 : Int32) (s : MS) : Option (Unit × MS) :=
  gX10_installs_85 x1 x2 x3 (0 : Int32) s
def gX10_installs (x1 : Int32) (x2 : Int32) (x3 : Int32) (s : MS) : Option (Unit × MS) :=
  bd (stA s 11 8 x2 (0 : Int32)) fun s1 => bd (ldA s1 11 6 x2) fun z2 => bd (ldA s1 11 19 x1) fun z3 => if z2 < z3 then (bdm (gX10_record x2 s1) fun z4 s4 => if z4 = 0 then (some ((), s4)) else (bd (ldA s4 11 19 x1) fun z5 => bd (ldA s4 11 5 x2) fun z6 => if z6 < z5 then (gX10_installs_84 x1 x2 x3 s4) else (bd (ldA s4 11 19 x1) fun z7 => bdm (gX10_termAt x2 z7 s4) fun z8 s8 => bd (ldA s8 11 20 x1) fun z9 => if z8 = z9 then (gX10_installs_85 x1 x2 x3 (1 : Int32) s8) else (gX10_installs_84 x1 x2 x3 s8)))) else (bd (ldA s1 11 6 x2) fun z10 => bdm (gX10_answer (3 : Int32) x2 x3 z10 s1) fun _ s11 => some ((), s11))
def gX10_got_294 (x2 : Int32) (x3 : Int32) (s : MS) : Option (Unit × MS) :=
  bdm (gX10_send x2 x3 s) fun _ s1 => some ((), s1)
def gX10_got_102 (x2 : Int32) (x3 : Int32) (s : MS) : Option (Unit × MS) :=
  bd (ldA s 11 5 x2) fun z1 => bdm (gX10_answer (4 : Int32) x2 x3 z1 s) fun _ s2 => some ((), s2)
def gX10_got_82 (x1 : Int32) (x2 : Int32) (x3 : Int32) (s : MS) : Option (Unit × MS) :=
  bd (ldA s 11 15 x1) fun z1 => if z1 = (2 : Int32) then (gX10_got_102 x2 x3 s) else (bd (ldA s 11 15 x1) fun z2 => if z2 = (5 : Int32) then (gX10_got_102 x2 x3 s) else (some ((), s)))
def gX10_got_50 (x1 : Int32) (x2 : Int32) (x3 : Int32) (s : MS) : Option (Unit × MS) :=
  bd (ldA s 11 18 x1) fun z1 => bd (ldA s 11 2 x2) fun z2 => if z2 ≤ z1 then (bd (ldA s 11 15 x1) fun z3 => if z3 = (0 : Int32) then (bdm (gX10_asked x1 x2 x3 s) fun _ s18 => some ((), s18)) else (if z3 = (1 : Int32) then (bd (ldA s 11 8 x2) fun z15 => if z15 = (1 : Int32) then (bd (ldA s 11 19 x1) fun z16 => if z16 = (1 : Int32) then (bdm (gX10_counts x2 x3 s) fun _ s17 => some ((), s17)) else (some ((), s))) else (some ((), s))) else (if z3 = (2 : Int32) then (bdm (gX10_appends x1 x2 x3 s) fun _ s14 => some ((), s14)) else (if z3 = (3 : Int32) then (bd (ldA s 11 8 x2) fun z11 => if z11 = (2 : Int32) then (bd (ldA s 11 19 x1) fun z12 => bdm (gX10_accepted x2 x3 z12 s) fun _ s13 => some ((), s13)) else (some ((), s))) else (if z3 = (4 : Int32) then (bd (ldA s 11 8 x2) fun z5 => if z5 = (2 : Int32) then (bd (ldA s 11 11 (((5 : Int32) * x2) + x3)) fun z6 => bd (ldA s 11 19 x1) fun z7 => if z6 ≤ (z7 + (1 : Int32)) then (gX10_got_294 x2 x3 s) else (bd (ldA s 11 19 x1) fun z8 => bd (ldA s 11 12 (((5 : Int32) * x2) + x3)) fun z9 => bd (stA s 11 11 (((5 : Int32) * x2) + x3) (mx (z8 + (1 : Int32)) (z9 + (1 : Int32)))) fun s10 => gX10_got_294 x2 x3 s10)) else (some ((), s))) else (bdm (gX10_installs x1 x2 x3 s) fun _ s4 => some ((), s4))))))) else (bd (ldA s 11 15 x1) fun z19 => if z19 = 0 then (bdm (gX10_answer (1 : Int32) x2 x3 (0 : Int32) s) fun _ s20 => gX10_got_82 x1 x2 x3 s20) else (gX10_got_82 x1 x2 x3 s))
def gX10_got (x1 : Int32) (x2 : Int32) (x3 : Int32) (s : MS) : Option (Unit × MS) :=
  bd (ldA s 11 18 x1) fun z1 => bd (ldA s 11 2 x2) fun z2 => if z1 ≤ z2 then (gX10_got_50 x1 x2 x3 s) else (bdm (gX10_record x2 s) fun z3 s3 => if z3 = 0 then (some ((), s3)) else (bd (ldA s3 11 18 x1) fun z4 => bd (stA s3 11 2 x2 z4) fun s5 => bd (stA s5 11 3 x2 (-1 : Int32)) fun s6 => bd (stA s6 11 8 x2 (0 : Int32)) fun s7 => gX10_got_50 x1 x2 x3 s7))
def gX10_deliver_18 (x1 : Int32) (y0 : Int32) (s : MS) : Option (Int32 × MS) :=
  bdm (gX10_bad y0 (1 : Int32) s) fun z1 s1 => if z1 = 0 then (bd (rdF s1 24) fun z2 => bd (ldA s1 11 17 x1) fun z3 => bd (ldA s1 13 1 z3) fun z4 => if z4 = 0 then (bd (rdF s1 24) fun z5 => some ((z5 - z2), s1)) else (bd (ldA s1 11 17 x1) fun z6 => bd (ldA s1 11 16 x1) fun z7 => bdm (gX10_got x1 z6 z7 s1) fun _ s8 => bd (rdF s8 24) fun z9 => some ((z9 - z2), s8))) else (some ((0 : Int32), s1))
def gX10_deliver_13 (x1 : Int32) (s : MS) : Option (Int32 × MS) :=
  gX10_deliver_18 x1 (1 : Int32) s
def gX10_deliver (x1 : Int32) (s : MS) : Option (Int32 × MS) :=
  if x1 < 0 then (gX10_deliver_13 x1 s) else (bd (rdF s 24) fun z1 => if x1 < z1 then (gX10_deliver_18 x1 (0 : Int32) s) else (gX10_deliver_13 x1 s))
def gX10_event (x1 : Int32) (x2 : Int32) (x3 : Int32) (s : MS) : Option (Unit × MS) :=
  bd (rdF s 47) fun z1 => bd (rdF s 40) fun z2 => bd (stA s 11 34 z1 z2) fun s3 => bd (rdF s3 47) fun z4 => bd (stA s3 11 35 z4 x1) fun s5 => bd (rdF s5 47) fun z6 => bd (stB s5 13 37 z6 x2) fun s7 => bd (rdF s7 47) fun z8 => bd (stA s7 11 36 z8 x3) fun s9 => bd (rdF s9 47) fun z10 => bd (wrF s9 47 (z10 + (1 : Int32))) fun s11 => some ((), s11)
def gX10_put_29 (x1 : Int32) (x2 : Int32) (x3 : Int32) (s : MS) : Option (Unit × MS) :=
  bd (ldA s 11 27 x1) fun z1 => bd (stA s 11 27 x1 (z1 + (1 : Int32))) fun s2 => bd (rdF s2 40) fun z3 => bd (stA s2 11 29 x1 z3) fun s4 => bd (stA s4 11 30 x1 x2) fun s5 => bd (stA s5 11 31 x1 x3) fun s6 => bdm (gX10_event x1 (1 : Int32) x2 s6) fun _ s7 => some ((), s7)
def gX10_put (x1 : Int32) (x2 : Int32) (x3 : Int32) (s : MS) : Option (Unit × MS) :=
  bd (rdF s 40) fun z1 => bd (wrF s 40 (z1 + (1 : Int32))) fun s2 => bd (ldA s2 11 27 x1) fun z3 => if z3 = 0 then (bd (rdF s2 40) fun z4 => bd (stA s2 11 28 x1 z4) fun s5 => gX10_put_29 x1 x2 x3 s5) else (gX10_put_29 x1 x2 x3 s2)
def gX10_gone (x1 : Int32) (s : MS) : Option (Unit × MS) :=
  bd (stA s 11 27 x1 (0 : Int32)) fun s1 => bd (stA s1 11 28 x1 (0 : Int32)) fun s2 => bd (stA s2 11 29 x1 (0 : Int32)) fun s3 => bd (stA s3 11 30 x1 (0 : Int32)) fun s4 => bd (stA s4 11 31 x1 (0 : Int32)) fun s5 => bdm (gX10_event x1 (0 : Int32) (0 : Int32) s5) fun _ s6 => some ((), s6)
def gX10_removed_64 (k6 : Int32 → Int32 → Int32 → Int32 → MS → Option (Int32 × MS)) (x2 : Int32) (x3 : Int32) (x4 : Int32) (x5 : Int32) (s : MS) : Option (Int32 × MS) :=
  k6 x2 x3 x4 (x5 + (1 : Int32)) s
def gX10_removed_55 (k6 : Int32 → Int32 → Int32 → Int32 → MS → Option (Int32 × MS)) (x2 : Int32) (x3 : Int32) (x4 : Int32) (x5 : Int32) (s : MS) : Option (Int32 × MS) :=
  bdm (gX10_gone x5 s) fun _ s1 => gX10_removed_64 k6 x2 x3 (x4 + (1 : Int32)) x5 s1
def gX10_removed_40 (k6 : Int32 → Int32 → Int32 → Int32 → MS → Option (Int32 × MS)) (x2 : Int32) (x3 : Int32) (x4 : Int32) (x5 : Int32) (s : MS) : Option (Int32 × MS) :=
  if x4 = 0 then (bd (rdF s 40) fun z1 => bd (wrF s 40 (z1 + (1 : Int32))) fun s2 => gX10_removed_55 k6 x2 x3 x4 x5 s2) else (gX10_removed_55 k6 x2 x3 x4 x5 s)
def gX10_removed_6_body (k6 : Int32 → Int32 → Int32 → Int32 → MS → Option (Int32 × MS)) (x2 : Int32) (x3 : Int32) (x4 : Int32) (x5 : Int32) (s : MS) : Option (Int32 × MS) :=
  if x2 < x5 then (some (x4, s)) else (bd (ldA s 11 27 x5) fun z1 => if z1 = 0 then (gX10_removed_64 k6 x2 x3 x4 x5 s) else (if x3 < 0 then (gX10_removed_40 k6 x2 x3 x4 x5 s) else (bd (ldA s 11 31 x5) fun z2 => if z2 = x3 then (gX10_removed_40 k6 x2 x3 x4 x5 s) else (gX10_removed_64 k6 x2 x3 x4 x5 s))))
def gX10_removed_6 : Nat → Int32 → Int32 → Int32 → Int32 → MS → Option (Int32 × MS)
  | 0 => fun _ _ _ _ _ => none
  | n + 1 => gX10_removed_6_body (gX10_removed_6 n)
def gX10_removed (x1 : Int32) (x2 : Int32) (x3 : Int32) (s : MS) : Option (Int32 × MS) :=
  gX10_removed_6 LF x2 x3 (0 : Int32) x1 s
def gX10_says (x1 : Int32) (x2 : Int32) (s : MS) : Option (Int32 × MS) :=
  if x2 = 0 then (bd (ldA s 11 27 x1) fun z4 => some (z4, s)) else (if x2 = (1 : Int32) then (bd (ldA s 11 28 x1) fun z3 => some (z3, s)) else (if x2 = (2 : Int32) then (bd (ldA s 11 29 x1) fun z2 => some (z2, s)) else (bd (ldA s 11 30 x1) fun z1 => some (z1, s))))
def gX10_done_349 (k297 : Int32 → MS → Option (Int32 × MS)) (x8 : Int32) (s : MS) : Option (Int32 × MS) :=
  k297 (x8 + (1 : Int32)) s
def gX10_done_297_body (k297 : Int32 → MS → Option (Int32 × MS)) (x8 : Int32) (s : MS) : Option (Int32 × MS) :=
  if (8 : Int32) < x8 then (bd (rdF s 41) fun z1 => some (z1, s)) else (bd (ldA s 13 32 x8) fun z2 => if z2 = 0 then (gX10_done_349 k297 x8 s) else (bd (ldA s 11 33 x8) fun z3 => bd (rdF s 41) fun z4 => if z3 ≤ z4 then (bd (stB s 13 32 x8 (0 : Int32)) fun s5 => bdm (gX10_removed (0 : Int32) (63 : Int32) x8 s5) fun z6 s6 => gX10_done_349 k297 x8 s6) else (gX10_done_349 k297 x8 s)))
def gX10_done_297 : Nat → Int32 → MS → Option (Int32 × MS)
  | 0 => fun _ _ => none
  | n + 1 => gX10_done_297_body (gX10_done_297 n)
def gX10_done_269 (x2 : Int32) (s : MS) : Option (Int32 × MS) :=
  bd (ldA s 13 32 x2) fun z1 => if z1 = 0 then (some ((0 : Int32), s)) else (some ((1 : Int32), s))
def gX10_done_178 (x9 : Int32) (s : MS) : Option (Int32 × MS) :=
  if x9 = 0 then (some ((0 : Int32), s)) else (some ((1 : Int32), s))
def gX10_done_149 (x6 : Int32) (x7 : Int32) (y0 : Int32) (s : MS) : Option (Int32 × MS) :=
  if y0 = 0 then (bdm (gX10_removed x6 x6 (-1 : Int32) s) fun z1 s1 => gX10_done_178 y0 s1) else (bdm (gX10_put x6 x7 (0 : Int32) s) fun _ s2 => gX10_done_178 y0 s2)
def gX10_done_67 (x2 : Int32) (x3 : Int32) (x4 : Int32) (s : MS) : Option (Int32 × MS) :=
  bdm (gX10_put x2 x3 x4 s) fun _ s1 => bd (rdF s1 40) fun z2 => some (z2, s1)
def gX10_done (x1 : Int32) (x2 : Int32) (x3 : Int32) (x4 : Int32) (x5 : Int32) (x6 : Int32) (x7 : Int32) (s : MS) : Option (Int32 × MS) :=
  if x1 = (0 : Int32) then (some ((0 : Int32), s)) else (if x1 = (1 : Int32) then (if x4 = 0 then (gX10_done_67 x2 x3 x4 s) else (bd (ldA s 13 32 x4) fun z18 => if z18 = 0 then (some ((-1 : Int32), s)) else (gX10_done_67 x2 x3 x4 s))) else (if x1 = (2 : Int32) then (bdm (gX10_removed x2 x3 (-1 : Int32) s) fun z17 s17 => some (z17, s17)) else (if x1 = (3 : Int32) then (bdm (gX10_says x2 x3 s) fun z16 s16 => if x4 = 0 then (if z16 = x5 then (gX10_done_149 x6 x7 (1 : Int32) s16) else (gX10_done_149 x6 x7 (0 : Int32) s16)) else (if x4 = (1 : Int32) then (if x5 ≤ z16 then (gX10_done_149 x6 x7 (0 : Int32) s16) else (gX10_done_149 x6 x7 (1 : Int32) s16)) else (if z16 ≤ x5 then (gX10_done_149 x6 x7 (0 : Int32) s16) else (gX10_done_149 x6 x7 (1 : Int32) s16)))) else (if x1 = (4 : Int32) then (bd (ldA s 13 32 x2) fun z12 => if z12 = 0 then (bd (stB s 13 32 x2 (1 : Int32)) fun s13 => bd (rdF s13 41) fun z14 => bd (stA s13 11 33 x2 (z14 + x3)) fun s15 => some ((1 : Int32), s15)) else (some ((0 : Int32), s))) else (if x1 = (5 : Int32) then (bd (ldA s 13 32 x2) fun z9 => if z9 = 0 then (some ((-1 : Int32), s)) else (bd (stB s 13 32 x2 (0 : Int32)) fun s10 => bdm (gX10_removed (0 : Int32) (63 : Int32) x2 s10) fun z11 s11 => some (z11, s11))) else (if x1 = (6 : Int32) then (bd (ldA s 13 32 x2) fun z6 => if z6 = 0 then (gX10_done_269 x2 s) else (bd (rdF s 41) fun z7 => bd (stA s 11 33 x2 (z7 + x3)) fun s8 => gX10_done_269 x2 s8)) else (if x1 = (7 : Int32) then (bd (rdF s 41) fun z4 => bd (wrF s 41 (z4 + (1 : Int32))) fun s5 => gX10_done_297 LF (1 : Int32) s5) else (bd (rdF s 42) fun z1 => if x2 ≤ z1 then (some ((0 : Int32), s)) else (bd (rdF s 40) fun z2 => if x2 ≤ z2 then (bd (wrF s 42 x2) fun s3 => some ((1 : Int32), s3)) else (some ((0 : Int32), s)))))))))))
def gX10_firstEvent_2_body (k2 : Int32 → MS → Option (Int32 × MS)) (x1 : Int32) (s : MS) : Option (Int32 × MS) :=
  bd (rdF s 47) fun z1 => if z1 ≤ x1 then (some (x1, s)) else (bd (ldA s 11 34 x1) fun z2 => bd (rdF s 42) fun z3 => if z3 < z2 then (some (x1, s)) else (k2 (x1 + (1 : Int32)) s))
def gX10_firstEvent_2 : Nat → Int32 → MS → Option (Int32 × MS)
  | 0 => fun _ _ => none
  | n + 1 => gX10_firstEvent_2_body (gX10_firstEvent_2 n)
def gX10_firstEvent  (s : MS) : Option (Int32 × MS) :=
  gX10_firstEvent_2 LF (0 : Int32) s
def gX10_work_291_body (k184 : Int32 → Int32 → MS → Option (Unit × MS)) (k291 : Int32 → Int32 → MS → Option (Unit × MS)) (x1 : Int32) (x2 : Int32) (s : MS) : Option (Unit × MS) :=
  bd (rdF s 47) fun z1 => bdm (gX10_firstEvent s) fun z2 s2 => if (z1 - z2) ≤ (400 : Int32) then (k184 x1 x2 s2) else (bdm (gX10_firstEvent s2) fun z3 s3 => bd (ldA s3 11 34 z3) fun z4 => bd (wrF s3 42 z4) fun s5 => k291 x1 x2 s5)
def gX10_work_291 (k184 : Int32 → Int32 → MS → Option (Unit × MS)) : Nat → Int32 → Int32 → MS → Option (Unit × MS)
  | 0 => fun _ _ _ => none
  | n + 1 => gX10_work_291_body k184 (gX10_work_291 k184 n)
def gX10_work_184_body (k184 : Int32 → Int32 → MS → Option (Unit × MS)) (x1 : Int32) (x2 : Int32) (s : MS) : Option (Unit × MS) :=
  bd (rdF s 50) fun z1 => if x2 ≤ z1 then (some ((), s)) else (bd (rdF s 50) fun z2 => bd (wrF s 50 (z2 + (1 : Int32))) fun s3 => bd (rdF s3 50) fun z4 => bdm (gX10_at x1 z4 s3) fun z5 s5 => bd (rdF s5 50) fun z6 => bd (ldA s5 11 13 (z5 + (1 : Int32))) fun z7 => bd (ldA s5 11 13 (z5 + (2 : Int32))) fun z8 => bd (ldA s5 11 13 (z5 + (3 : Int32))) fun z9 => bd (ldA s5 11 13 (z5 + (4 : Int32))) fun z10 => bd (ldA s5 11 13 (z5 + (5 : Int32))) fun z11 => bd (ldA s5 11 13 (z5 + (6 : Int32))) fun z12 => bd (ldA s5 11 13 (z5 + (7 : Int32))) fun z13 => bdm (gX10_done z7 z8 z9 z10 z11 z12 z13 s5) fun z14 s14 => bd (stA s14 11 38 z6 z14) fun s15 => gX10_work_291 k184 LF x1 x2 s15)
def gX10_work_184 : Nat → Int32 → Int32 → MS → Option (Unit × MS)
  | 0 => fun _ _ _ => none
  | n + 1 => gX10_work_184_body (gX10_work_184 n)
def gX10_work_169 (x1 : Int32) (x2 : Int32) (s : MS) : Option (Unit × MS) :=
  bd (wrF s 49 x1) fun s1 => bd (ldA s1 11 14 x1) fun z2 => bd (wrF s1 51 z2) fun s3 => gX10_work_184 LF x1 x2 s3
def gX10_work_123_body (k123 : Int32 → Int32 → Int32 → MS → Option (Unit × MS)) (x1 : Int32) (x2 : Int32) (x4 : Int32) (s : MS) : Option (Unit × MS) :=
  if (9 : Int32) ≤ x4 then (bd (wrF s 40 (1 : Int32)) fun s1 => bd (wrF s1 41 (0 : Int32)) fun s2 => bd (wrF s2 42 (0 : Int32)) fun s3 => bd (wrF s3 47 (0 : Int32)) fun s4 => bd (wrF s4 50 (0 : Int32)) fun s5 => gX10_work_169 x1 x2 s5) else (bd (stB s 13 32 x4 (0 : Int32)) fun s6 => k123 x1 x2 (x4 + (1 : Int32)) s6)
def gX10_work_123 : Nat → Int32 → Int32 → Int32 → MS → Option (Unit × MS)
  | 0 => fun _ _ _ _ => none
  | n + 1 => gX10_work_123_body (gX10_work_123 n)
def gX10_work_67_body (k67 : Int32 → Int32 → Int32 → MS → Option (Unit × MS)) (x1 : Int32) (x2 : Int32) (x4 : Int32) (s : MS) : Option (Unit × MS) :=
  if (64 : Int32) ≤ x4 then (gX10_work_123 LF x1 x2 (0 : Int32) s) else (bd (stA s 11 27 x4 (0 : Int32)) fun s1 => bd (stA s1 11 28 x4 (0 : Int32)) fun s2 => bd (stA s2 11 29 x4 (0 : Int32)) fun s3 => bd (stA s3 11 30 x4 (0 : Int32)) fun s4 => bd (stA s4 11 31 x4 (0 : Int32)) fun s5 => k67 x1 x2 (x4 + (1 : Int32)) s5)
def gX10_work_67 : Nat → Int32 → Int32 → Int32 → MS → Option (Unit × MS)
  | 0 => fun _ _ _ _ => none
  | n + 1 => gX10_work_67_body (gX10_work_67 n)
def gX10_work_59 (x1 : Int32) (x2 : Int32) (y0 : Int32) (s : MS) : Option (Unit × MS) :=
  if y0 = 0 then (gX10_work_67 LF x1 x2 (0 : Int32) s) else (gX10_work_169 x1 x2 s)
def gX10_work_58 (x1 : Int32) (x2 : Int32) (s : MS) : Option (Unit × MS) :=
  gX10_work_59 x1 x2 (0 : Int32) s
def gX10_work_24 (x1 : Int32) (y0 : Int32) (s : MS) : Option (Unit × MS) :=
  bd (rdF s 49) fun z1 => if z1 = x1 then (bd (rdF s 51) fun z2 => bd (ldA s 11 14 x1) fun z3 => if z2 = z3 then (bd (rdF s 50) fun z4 => if y0 < z4 then (gX10_work_58 x1 y0 s) else (gX10_work_59 x1 y0 (1 : Int32) s)) else (gX10_work_58 x1 y0 s)) else (gX10_work_58 x1 y0 s)
def gX10_work (x1 : Int32) (s : MS) : Option (Unit × MS) :=
  bd (ldA s 13 1 x1) fun z1 => if z1 = 0 then (bd (ldA s 11 4 x1) fun z2 => gX10_work_24 x1 z2 s) else (bd (ldA s 11 6 x1) fun z3 => gX10_work_24 x1 z3 s)
def gX10_digest_165_body (k165 : Int64 → Int32 → MS → Option (Int64 × MS)) (x2 : Int64) (x4 : Int32) (s : MS) : Option (Int64 × MS) :=
  bd (rdF s 47) fun z1 => if z1 ≤ x4 then (bd (rdF s 40) fun z2 => some ((((31 : Int64) * x2) + (z2.toInt64)), s)) else (bdm (gX10_coded x4 s) fun z3 s3 => k165 (((31 : Int64) * x2) + z3) (x4 + (1 : Int32)) s3)
def gX10_digest_165 : Nat → Int64 → Int32 → MS → Option (Int64 × MS)
  | 0 => fun _ _ _ => none
  | n + 1 => gX10_digest_165_body (gX10_digest_165 n)
def gX10_digest_153 (k56 : Int64 → Int32 → MS → Option (Int64 × MS)) (x2 : Int64) (x4 : Int32) (s : MS) : Option (Int64 × MS) :=
  k56 x2 (x4 + (1 : Int32)) s
def gX10_digest_56_body (k56 : Int64 → Int32 → MS → Option (Int64 × MS)) (x2 : Int64) (x4 : Int32) (s : MS) : Option (Int64 × MS) :=
  if (64 : Int32) ≤ x4 then (bdm (gX10_firstEvent s) fun z1 s1 => gX10_digest_165 LF x2 z1 s1) else (bd (ldA s 11 27 x4) fun z2 => if z2 = 0 then (gX10_digest_153 k56 x2 x4 s) else (bd (ldA s 11 30 x4) fun z3 => bd (ldA s 11 27 x4) fun z4 => bd (ldA s 11 28 x4) fun z5 => bd (ldA s 11 29 x4) fun z6 => bd (ldA s 11 31 x4) fun z7 => gX10_digest_153 k56 (((31 : Int64) * (((31 : Int64) * (((31 : Int64) * (((31 : Int64) * (((31 : Int64) * (((31 : Int64) * x2) + (x4.toInt64))) + (z3.toInt64))) + (z4.toInt64))) + (z5.toInt64))) + (z6.toInt64))) + (z7.toInt64)) x4 s))
def gX10_digest_56 : Nat → Int64 → Int32 → MS → Option (Int64 × MS)
  | 0 => fun _ _ _ => none
  | n + 1 => gX10_digest_56_body (gX10_digest_56 n)
def gX10_digest_35 (x1 : Int32) (y0 : Int32) (s : MS) : Option (Int64 × MS) :=
  bdm (gX10_bad y0 (2 : Int32) s) fun z1 s1 => if z1 = 0 then (bdm (gX10_work x1 s1) fun _ s2 => gX10_digest_56 LF (7 : Int64) (0 : Int32) s2) else (some ((0 : Int64), s1))
def gX10_digest_13 (x1 : Int32) (y0 : Int32) (s : MS) : Option (Int64 × MS) :=
  bdm (gX10_bad y0 (1 : Int32) s) fun z1 s1 => if z1 = 0 then (bd (ldA s1 13 1 x1) fun z2 => if z2 = 0 then (gX10_digest_35 x1 (1 : Int32) s1) else (gX10_digest_35 x1 (0 : Int32) s1)) else (some ((0 : Int64), s1))
def gX10_digest (x1 : Int32) (s : MS) : Option (Int64 × MS) :=
  bdm (gX10_isNode x1 s) fun z1 s1 => if z1 = 0 then (gX10_digest_13 x1 (1 : Int32) s1) else (gX10_digest_13 x1 (0 : Int32) s1)
def gX10_entry_42  (s : MS) : Option (Int32 × MS) :=
  some ((-1 : Int32), s)
def gX10_entry_13 (x1 : Int32) (x2 : Int32) (y0 : Int32) (s : MS) : Option (Int32 × MS) :=
  bdm (gX10_bad y0 (1 : Int32) s) fun z1 s1 => if z1 = 0 then (bd (ldA s1 11 4 x1) fun z2 => if x2 < z2 then (gX10_entry_42 s1) else (bd (ldA s1 11 5 x1) fun z3 => if x2 ≤ z3 then (bdm (gX10_termAt x1 x2 s1) fun z4 s4 => some (z4, s4)) else (gX10_entry_42 s1))) else (some ((0 : Int32), s1))
def gX10_entry (x1 : Int32) (x2 : Int32) (s : MS) : Option (Int32 × MS) :=
  bdm (gX10_isNode x1 s) fun z1 s1 => if z1 = 0 then (gX10_entry_13 x1 x2 (1 : Int32) s1) else (gX10_entry_13 x1 x2 (0 : Int32) s1)
def gX10_event__122 (x3 : Int32) (x4 : Int32) (y0 : Int32) (s : MS) : Option (Int64 × MS) :=
  bdm (gX10_bad y0 (1 : Int32) s) fun z1 s1 => if z1 = 0 then (bdm (gX10_coded (x4 + x3) s1) fun z2 s2 => some (z2, s2)) else (some ((0 : Int64), s1))
def gX10_event__117 (x3 : Int32) (x4 : Int32) (s : MS) : Option (Int64 × MS) :=
  gX10_event__122 x3 x4 (1 : Int32) s
def gX10_event__101 (x3 : Int32) (x4 : Int32) (s : MS) : Option (Int64 × MS) :=
  if x3 < 0 then (gX10_event__117 x3 x4 s) else (bd (rdF s 47) fun z1 => if x3 < (z1 - x4) then (gX10_event__122 x3 x4 (0 : Int32) s) else (gX10_event__117 x3 x4 s))
def gX10_event__75_body (k75 : Int32 → Int32 → Int32 → MS → Option (Int64 × MS)) (x2 : Int32) (x3 : Int32) (x4 : Int32) (s : MS) : Option (Int64 × MS) :=
  bd (rdF s 47) fun z1 => if z1 ≤ x4 then (gX10_event__101 x3 x4 s) else (bd (ldA s 11 34 x4) fun z2 => if x2 ≤ z2 then (gX10_event__101 x3 x4 s) else (k75 x2 x3 (x4 + (1 : Int32)) s))
def gX10_event__75 : Nat → Int32 → Int32 → Int32 → MS → Option (Int64 × MS)
  | 0 => fun _ _ _ _ => none
  | n + 1 => gX10_event__75_body (gX10_event__75 n)
def gX10_event__63 (x2 : Int32) (x3 : Int32) (y0 : Int32) (s : MS) : Option (Int64 × MS) :=
  bdm (gX10_bad y0 (3 : Int32) s) fun z1 s1 => if z1 = 0 then (gX10_event__75 LF x2 x3 (0 : Int32) s1) else (some ((0 : Int64), s1))
def gX10_event__35 (x1 : Int32) (x2 : Int32) (x3 : Int32) (y0 : Int32) (s : MS) : Option (Int64 × MS) :=
  bdm (gX10_bad y0 (2 : Int32) s) fun z1 s1 => if z1 = 0 then (bdm (gX10_work x1 s1) fun _ s2 => bd (rdF s2 42) fun z3 => if z3 < x2 then (gX10_event__63 x2 x3 (0 : Int32) s2) else (gX10_event__63 x2 x3 (1 : Int32) s2)) else (some ((0 : Int64), s1))
def gX10_event__13 (x1 : Int32) (x2 : Int32) (x3 : Int32) (y0 : Int32) (s : MS) : Option (Int64 × MS) :=
  bdm (gX10_bad y0 (1 : Int32) s) fun z1 s1 => if z1 = 0 then (bd (ldA s1 13 1 x1) fun z2 => if z2 = 0 then (gX10_event__35 x1 x2 x3 (1 : Int32) s1) else (gX10_event__35 x1 x2 x3 (0 : Int32) s1)) else (some ((0 : Int64), s1))
def gX10_event_ (x1 : Int32) (x2 : Int32) (x3 : Int32) (s : MS) : Option (Int64 × MS) :=
  bdm (gX10_isNode x1 s) fun z1 s1 => if z1 = 0 then (gX10_event__13 x1 x2 x3 (1 : Int32) s1) else (gX10_event__13 x1 x2 x3 (0 : Int32) s1)
def gX10_expire_165 (k104 : Int32 → Int32 → Int32 → MS → Option (Int32 × MS)) (x1 : Int32) (x2 : Int32) (x3 : Int32) (s : MS) : Option (Int32 × MS) :=
  k104 x1 x2 (x3 + (1 : Int32)) s
def gX10_expire_104_body (k104 : Int32 → Int32 → Int32 → MS → Option (Int32 × MS)) (x1 : Int32) (x2 : Int32) (x3 : Int32) (s : MS) : Option (Int32 × MS) :=
  if (5 : Int32) ≤ x3 then (bd (rdF s 24) fun z1 => some ((z1 - x2), s)) else (if x3 = x1 then (gX10_expire_165 k104 x1 x2 x3 s) else (bdm (gX10_made (0 : Int32) x1 x3 s) fun z2 s2 => if 0 ≤ z2 then (bd (ldA s2 11 5 x1) fun z3 => bd (stA s2 11 19 z2 z3) fun s4 => bd (ldA s4 11 5 x1) fun z5 => bdm (gX10_termAt x1 z5 s4) fun z6 s6 => bd (stA s6 11 20 z2 z6) fun s7 => gX10_expire_165 k104 x1 x2 x3 s7) else (gX10_expire_165 k104 x1 x2 x3 s2)))
def gX10_expire_104 : Nat → Int32 → Int32 → Int32 → MS → Option (Int32 × MS)
  | 0 => fun _ _ _ _ => none
  | n + 1 => gX10_expire_104_body (gX10_expire_104 n)
def gX10_expire_45 (x1 : Int32) (y0 : Int32) (s : MS) : Option (Int32 × MS) :=
  bdm (gX10_bad y0 (2 : Int32) s) fun z1 s1 => if z1 = 0 then (bd (rdF s1 24) fun z2 => bdm (gX10_record x1 s1) fun z3 s3 => if z3 = 0 then (some ((0 : Int32), s3)) else (bd (ldA s3 11 2 x1) fun z4 => bd (stA s3 11 2 x1 (z4 + (1 : Int32))) fun s5 => bd (stA s5 11 3 x1 x1) fun s6 => bd (stA s6 11 8 x1 (1 : Int32)) fun s7 => bd (stA s7 11 9 x1 ((1 : Int32) <<< (x1 &&& 31))) fun s8 => gX10_expire_104 LF x1 z2 (0 : Int32) s8)) else (some ((0 : Int32), s1))
def gX10_expire_40 (x1 : Int32) (s : MS) : Option (Int32 × MS) :=
  gX10_expire_45 x1 (1 : Int32) s
def gX10_expire_13 (x1 : Int32) (y0 : Int32) (s : MS) : Option (Int32 × MS) :=
  bdm (gX10_bad y0 (1 : Int32) s) fun z1 s1 => if z1 = 0 then (bd (ldA s1 13 1 x1) fun z2 => if z2 = 0 then (gX10_expire_40 x1 s1) else (bd (ldA s1 11 8 x1) fun z3 => if z3 = (2 : Int32) then (gX10_expire_40 x1 s1) else (gX10_expire_45 x1 (0 : Int32) s1))) else (some ((0 : Int32), s1))
def gX10_expire (x1 : Int32) (s : MS) : Option (Int32 × MS) :=
  bdm (gX10_isNode x1 s) fun z1 s1 => if z1 = 0 then (gX10_expire_13 x1 (1 : Int32) s1) else (gX10_expire_13 x1 (0 : Int32) s1)
def gX10_isKey (x0 : Int32) (s : MS) : Option (Int32 × MS) :=
  if x0 < 0 then (some ((0 : Int32), s)) else (if (64 : Int32) ≤ x0 then (some ((0 : Int32), s)) else (some ((1 : Int32), s)))
def gX10_isRight_165  (s : MS) : Option (Int32 × MS) :=
  some ((1 : Int32), s)
def gX10_isRight_136 (x2 : Int32) (s : MS) : Option (Int32 × MS) :=
  if x2 < (1 : Int32) then (some ((0 : Int32), s)) else (if (8 : Int32) < x2 then (some ((0 : Int32), s)) else (some ((1 : Int32), s)))
def gX10_isRight (x1 : Int32) (x2 : Int32) (x3 : Int32) (s : MS) : Option (Int32 × MS) :=
  if x1 = (1 : Int32) then (bdm (gX10_isKey x2 s) fun z8 s8 => if z8 = 0 then (some ((0 : Int32), s8)) else (bd (rdF s8 28) fun z9 => if z9 < 0 then (some ((0 : Int32), s8)) else (bd (rdF s8 28) fun z10 => if (8 : Int32) < z10 then (some ((0 : Int32), s8)) else (some ((1 : Int32), s8))))) else (if x1 = (2 : Int32) then (bdm (gX10_isKey x2 s) fun z6 s6 => if z6 = 0 then (some ((0 : Int32), s6)) else (bdm (gX10_isKey x3 s6) fun z7 s7 => if z7 = 0 then (some ((0 : Int32), s7)) else (some ((1 : Int32), s7)))) else (if x1 = (3 : Int32) then (bdm (gX10_isKey x2 s) fun z1 s1 => if z1 = 0 then (some ((0 : Int32), s1)) else (bd (rdF s1 30) fun z2 => bdm (gX10_isKey z2 s1) fun z3 s3 => if z3 = 0 then (some ((0 : Int32), s3)) else (if x3 < 0 then (some ((0 : Int32), s3)) else (if (3 : Int32) < x3 then (some ((0 : Int32), s3)) else (bd (rdF s3 28) fun z4 => if z4 < 0 then (some ((0 : Int32), s3)) else (bd (rdF s3 28) fun z5 => if (2 : Int32) < z5 then (some ((0 : Int32), s3)) else (some ((1 : Int32), s3)))))))) else (if x1 = (4 : Int32) then (gX10_isRight_136 x2 s) else (if x1 = (5 : Int32) then (gX10_isRight_136 x2 s) else (if x1 = (6 : Int32) then (gX10_isRight_136 x2 s) else (if x1 = (7 : Int32) then (gX10_isRight_165 s) else (if x1 = (8 : Int32) then (gX10_isRight_165 s) else (some ((0 : Int32), s)))))))))
def gX10_key_64 (x1 : Int32) (x2 : Int32) (x3 : Int32) (y0 : Int32) (s : MS) : Option (Int32 × MS) :=
  bdm (gX10_bad y0 (3 : Int32) s) fun z1 s1 => if z1 = 0 then (bdm (gX10_work x1 s1) fun _ s2 => if x3 = (4 : Int32) then (bd (ldA s2 11 31 x2) fun z4 => some (z4, s2)) else (bdm (gX10_says x2 x3 s2) fun z3 s3 => some (z3, s3))) else (some ((0 : Int32), s1))
def gX10_key_59 (x1 : Int32) (x2 : Int32) (x3 : Int32) (s : MS) : Option (Int32 × MS) :=
  gX10_key_64 x1 x2 x3 (1 : Int32) s
def gX10_key_42 (x1 : Int32) (x2 : Int32) (x3 : Int32) (y0 : Int32) (s : MS) : Option (Int32 × MS) :=
  bdm (gX10_bad y0 (2 : Int32) s) fun z1 s1 => if z1 = 0 then (if x3 < 0 then (gX10_key_59 x1 x2 x3 s1) else (if x3 ≤ (4 : Int32) then (gX10_key_64 x1 x2 x3 (0 : Int32) s1) else (gX10_key_59 x1 x2 x3 s1))) else (some ((0 : Int32), s1))
def gX10_key_20 (x1 : Int32) (x2 : Int32) (x3 : Int32) (y0 : Int32) (s : MS) : Option (Int32 × MS) :=
  bdm (gX10_bad y0 (1 : Int32) s) fun z1 s1 => if z1 = 0 then (bd (ldA s1 13 1 x1) fun z2 => if z2 = 0 then (gX10_key_42 x1 x2 x3 (1 : Int32) s1) else (gX10_key_42 x1 x2 x3 (0 : Int32) s1)) else (some ((0 : Int32), s1))
def gX10_key_15 (x1 : Int32) (x2 : Int32) (x3 : Int32) (s : MS) : Option (Int32 × MS) :=
  gX10_key_20 x1 x2 x3 (1 : Int32) s
def gX10_key (x1 : Int32) (x2 : Int32) (x3 : Int32) (s : MS) : Option (Int32 × MS) :=
  bdm (gX10_isNode x1 s) fun z1 s1 => if z1 = 0 then (gX10_key_15 x1 x2 x3 s1) else (bdm (gX10_isKey x2 s1) fun z2 s2 => if z2 = 0 then (gX10_key_15 x1 x2 x3 s2) else (gX10_key_20 x1 x2 x3 (0 : Int32) s2))
def gX10_message_41 (x1 : Int32) (x2 : Int32) (y0 : Int32) (s : MS) : Option (Int32 × MS) :=
  bdm (gX10_bad y0 (2 : Int32) s) fun z1 s1 => if z1 = 0 then (if x2 = 0 then (bd (ldA s1 11 15 x1) fun z9 => some (z9, s1)) else (if x2 = (1 : Int32) then (bd (ldA s1 11 16 x1) fun z8 => some (z8, s1)) else (if x2 = (2 : Int32) then (bd (ldA s1 11 17 x1) fun z7 => some (z7, s1)) else (if x2 = (3 : Int32) then (bd (ldA s1 11 18 x1) fun z6 => some (z6, s1)) else (if x2 = (4 : Int32) then (bd (ldA s1 11 19 x1) fun z5 => some (z5, s1)) else (if x2 = (5 : Int32) then (bd (ldA s1 11 20 x1) fun z4 => some (z4, s1)) else (if x2 = (6 : Int32) then (bd (ldA s1 11 21 x1) fun z3 => some (z3, s1)) else (bd (ldA s1 11 22 x1) fun z2 => some (z2, s1))))))))) else (some ((0 : Int32), s1))
def gX10_message_36 (x1 : Int32) (x2 : Int32) (s : MS) : Option (Int32 × MS) :=
  gX10_message_41 x1 x2 (1 : Int32) s
def gX10_message_18 (x1 : Int32) (x2 : Int32) (y0 : Int32) (s : MS) : Option (Int32 × MS) :=
  bdm (gX10_bad y0 (1 : Int32) s) fun z1 s1 => if z1 = 0 then (if x2 < 0 then (gX10_message_36 x1 x2 s1) else (if x2 ≤ (7 : Int32) then (gX10_message_41 x1 x2 (0 : Int32) s1) else (gX10_message_36 x1 x2 s1))) else (some ((0 : Int32), s1))
def gX10_message_13 (x1 : Int32) (x2 : Int32) (s : MS) : Option (Int32 × MS) :=
  gX10_message_18 x1 x2 (1 : Int32) s
def gX10_message (x1 : Int32) (x2 : Int32) (s : MS) : Option (Int32 × MS) :=
  if x1 < 0 then (gX10_message_13 x1 x2 s) else (bd (rdF s 24) fun z1 => if x1 < z1 then (gX10_message_18 x1 x2 (0 : Int32) s) else (gX10_message_13 x1 x2 s))
def gX10_messages  (s : MS) : Option (Int32 × MS) :=
  bd (wrF s 0 (0 : Int32)) fun s1 => bd (rdF s1 24) fun z2 => some (z2, s1)
def gX10_more (x1 : Int32) (x2 : Int32) (x3 : Int32) (x4 : Int32) (s : MS) : Option (Unit × MS) :=
  bd (wrF s 0 (0 : Int32)) fun s1 => bd (wrF s1 28 x1) fun s2 => bd (wrF s2 29 x2) fun s3 => bd (wrF s3 30 x3) fun s4 => bd (wrF s4 31 x4) fun s5 => some ((), s5)
def gX10_node_307 (k281 : Int32 → Int32 → MS → Option (Int32 × MS)) (x3 : Int32) (x4 : Int32) (s : MS) : Option (Int32 × MS) :=
  k281 x3 (x4 + (1 : Int32)) s
def gX10_node_281_body (k281 : Int32 → Int32 → MS → Option (Int32 × MS)) (x3 : Int32) (x4 : Int32) (s : MS) : Option (Int32 × MS) :=
  if (8 : Int32) < x4 then (some (x3, s)) else (bd (ldA s 13 32 x4) fun z1 => if z1 = 0 then (gX10_node_307 k281 x3 x4 s) else (gX10_node_307 k281 (x3 ||| ((1 : Int32) <<< ((x4 - (1 : Int32)) &&& 31))) x4 s))
def gX10_node_281 : Nat → Int32 → Int32 → MS → Option (Int32 × MS)
  | 0 => fun _ _ _ => none
  | n + 1 => gX10_node_281_body (gX10_node_281 n)
def gX10_node_270 (k250 : Int32 → Int32 → MS → Option (Int32 × MS)) (x3 : Int32) (x4 : Int32) (s : MS) : Option (Int32 × MS) :=
  k250 x3 (x4 + (1 : Int32)) s
def gX10_node_250_body (k250 : Int32 → Int32 → MS → Option (Int32 × MS)) (x3 : Int32) (x4 : Int32) (s : MS) : Option (Int32 × MS) :=
  if (64 : Int32) ≤ x4 then (some (x3, s)) else (bd (ldA s 11 27 x4) fun z1 => if z1 ≤ 0 then (gX10_node_270 k250 x3 x4 s) else (gX10_node_270 k250 (x3 + (1 : Int32)) x4 s))
def gX10_node_250 : Nat → Int32 → Int32 → MS → Option (Int32 × MS)
  | 0 => fun _ _ _ => none
  | n + 1 => gX10_node_250_body (gX10_node_250 n)
def gX10_node_36 (x1 : Int32) (x2 : Int32) (y0 : Int32) (s : MS) : Option (Int32 × MS) :=
  bdm (gX10_bad y0 (2 : Int32) s) fun z1 s1 => if z1 = 0 then (if x2 = (0 : Int32) then (bd (ldA s1 13 1 x1) fun z19 => if z19 = 0 then (some ((0 : Int32), s1)) else (some ((1 : Int32), s1))) else (if x2 = (1 : Int32) then (bd (ldA s1 11 2 x1) fun z18 => some (z18, s1)) else (if x2 = (2 : Int32) then (bd (ldA s1 11 3 x1) fun z17 => some (z17, s1)) else (if x2 = (3 : Int32) then (bd (ldA s1 11 8 x1) fun z16 => some (z16, s1)) else (if x2 = (4 : Int32) then (bd (ldA s1 11 4 x1) fun z15 => some (z15, s1)) else (if x2 = (5 : Int32) then (bd (ldA s1 11 5 x1) fun z14 => some (z14, s1)) else (if x2 = (6 : Int32) then (bd (ldA s1 13 1 x1) fun z11 => if z11 = 0 then (bd (ldA s1 11 4 x1) fun z12 => some (z12, s1)) else (bd (ldA s1 11 6 x1) fun z13 => some (z13, s1))) else (if x2 = (7 : Int32) then (bd (ldA s1 11 5 x1) fun z9 => bdm (gX10_termAt x1 z9 s1) fun z10 s10 => some (z10, s10)) else (bd (ldA s1 13 1 x1) fun z2 => if z2 = 0 then (some ((0 : Int32), s1)) else (bdm (gX10_work x1 s1) fun _ s3 => if x2 = (8 : Int32) then (bd (rdF s3 40) fun z8 => some (z8, s3)) else (if x2 = (9 : Int32) then (bd (rdF s3 41) fun z7 => some (z7, s3)) else (if x2 = (10 : Int32) then (bd (rdF s3 42) fun z6 => some (z6, s3)) else (if x2 = (11 : Int32) then (gX10_node_250 LF (0 : Int32) (0 : Int32) s3) else (if x2 = (12 : Int32) then (gX10_node_281 LF (0 : Int32) (1 : Int32) s3) else (bd (rdF s3 47) fun z4 => bdm (gX10_firstEvent s3) fun z5 s5 => some ((z4 - z5), s5)))))))))))))))) else (some ((0 : Int32), s1))
def gX10_node_31 (x1 : Int32) (x2 : Int32) (s : MS) : Option (Int32 × MS) :=
  gX10_node_36 x1 x2 (1 : Int32) s
def gX10_node_13 (x1 : Int32) (x2 : Int32) (y0 : Int32) (s : MS) : Option (Int32 × MS) :=
  bdm (gX10_bad y0 (1 : Int32) s) fun z1 s1 => if z1 = 0 then (if x2 < 0 then (gX10_node_31 x1 x2 s1) else (if x2 ≤ (13 : Int32) then (gX10_node_36 x1 x2 (0 : Int32) s1) else (gX10_node_31 x1 x2 s1))) else (some ((0 : Int32), s1))
def gX10_node (x1 : Int32) (x2 : Int32) (s : MS) : Option (Int32 × MS) :=
  bdm (gX10_isNode x1 s) fun z1 s1 => if z1 = 0 then (gX10_node_13 x1 x2 (1 : Int32) s1) else (gX10_node_13 x1 x2 (0 : Int32) s1)
def gX10_past_165 (x4 : Int32) (y0 : Int32) (s : MS) : Option (Int32 × MS) :=
  bdm (gX10_bad y0 (4 : Int32) s) fun z1 s1 => if z1 = 0 then (some (x4, s1)) else (some ((0 : Int32), s1))
def gX10_past_154 (x4 : Int32) (x5 : Int32) (s : MS) : Option (Int32 × MS) :=
  if x5 = 0 then (gX10_past_165 x4 (1 : Int32) s) else (gX10_past_165 x4 (0 : Int32) s)
def gX10_past_148 (k96 : Int32 → Int32 → Int32 → Int32 → Int32 → MS → Option (Int32 × MS)) (x2 : Int32) (x3 : Int32) (x4 : Int32) (x5 : Int32) (x6 : Int32) (s : MS) : Option (Int32 × MS) :=
  k96 x2 x3 x4 x5 (x6 + (1 : Int32)) s
def gX10_past_96_body (k96 : Int32 → Int32 → Int32 → Int32 → Int32 → MS → Option (Int32 × MS)) (x2 : Int32) (x3 : Int32) (x4 : Int32) (x5 : Int32) (x6 : Int32) (s : MS) : Option (Int32 × MS) :=
  bd (rdF s 47) fun z1 => if z1 ≤ x6 then (gX10_past_154 x4 x5 s) else (bd (ldA s 11 34 x6) fun z2 => if x3 < z2 then (gX10_past_154 x4 x5 s) else (bd (ldA s 11 35 x6) fun z3 => if z3 = x2 then (bd (ldA s 13 37 x6) fun z4 => bd (ldA s 11 36 x6) fun z5 => gX10_past_148 k96 x2 x3 z5 z4 x6 s) else (gX10_past_148 k96 x2 x3 x4 x5 x6 s)))
def gX10_past_96 : Nat → Int32 → Int32 → Int32 → Int32 → Int32 → MS → Option (Int32 × MS)
  | 0 => fun _ _ _ _ _ _ => none
  | n + 1 => gX10_past_96_body (gX10_past_96 n)
def gX10_past_78 (x2 : Int32) (x3 : Int32) (y0 : Int32) (s : MS) : Option (Int32 × MS) :=
  bdm (gX10_bad y0 (3 : Int32) s) fun z1 s1 => if z1 = 0 then (gX10_past_96 LF x2 x3 (0 : Int32) (0 : Int32) (0 : Int32) s1) else (some ((0 : Int32), s1))
def gX10_past_73 (x2 : Int32) (x3 : Int32) (s : MS) : Option (Int32 × MS) :=
  gX10_past_78 x2 x3 (1 : Int32) s
def gX10_past_42 (x1 : Int32) (x2 : Int32) (x3 : Int32) (y0 : Int32) (s : MS) : Option (Int32 × MS) :=
  bdm (gX10_bad y0 (2 : Int32) s) fun z1 s1 => if z1 = 0 then (bdm (gX10_work x1 s1) fun _ s2 => bd (rdF s2 42) fun z3 => if x3 < z3 then (gX10_past_73 x2 x3 s2) else (bd (rdF s2 40) fun z4 => if x3 ≤ z4 then (gX10_past_78 x2 x3 (0 : Int32) s2) else (gX10_past_73 x2 x3 s2))) else (some ((0 : Int32), s1))
def gX10_past_20 (x1 : Int32) (x2 : Int32) (x3 : Int32) (y0 : Int32) (s : MS) : Option (Int32 × MS) :=
  bdm (gX10_bad y0 (1 : Int32) s) fun z1 s1 => if z1 = 0 then (bd (ldA s1 13 1 x1) fun z2 => if z2 = 0 then (gX10_past_42 x1 x2 x3 (1 : Int32) s1) else (gX10_past_42 x1 x2 x3 (0 : Int32) s1)) else (some ((0 : Int32), s1))
def gX10_past_15 (x1 : Int32) (x2 : Int32) (x3 : Int32) (s : MS) : Option (Int32 × MS) :=
  gX10_past_20 x1 x2 x3 (1 : Int32) s
def gX10_past (x1 : Int32) (x2 : Int32) (x3 : Int32) (s : MS) : Option (Int32 × MS) :=
  bdm (gX10_isNode x1 s) fun z1 s1 => if z1 = 0 then (gX10_past_15 x1 x2 x3 s1) else (bdm (gX10_isKey x2 s1) fun z2 s2 => if z2 = 0 then (gX10_past_15 x1 x2 x3 s2) else (gX10_past_20 x1 x2 x3 (0 : Int32) s2))
def gX10_power_37 (x1 : Int32) (x2 : Int32) (y0 : Int32) (s : MS) : Option (Unit × MS) :=
  bdm (gX10_bad y0 (2 : Int32) s) fun z1 s1 => if z1 = 0 then (bd (stA s1 11 10 x1 x2) fun s2 => some ((), s2)) else (some ((), s1))
def gX10_power_32 (x1 : Int32) (x2 : Int32) (s : MS) : Option (Unit × MS) :=
  gX10_power_37 x1 x2 (1 : Int32) s
def gX10_power_13 (x1 : Int32) (x2 : Int32) (y0 : Int32) (s : MS) : Option (Unit × MS) :=
  bdm (gX10_bad y0 (1 : Int32) s) fun z1 s1 => if z1 = 0 then (if x2 < (-1 : Int32) then (gX10_power_32 x1 x2 s1) else (if x2 ≤ (100 : Int32) then (gX10_power_37 x1 x2 (0 : Int32) s1) else (gX10_power_32 x1 x2 s1))) else (some ((), s1))
def gX10_power (x1 : Int32) (x2 : Int32) (s : MS) : Option (Unit × MS) :=
  bdm (gX10_isNode x1 s) fun z1 s1 => if z1 = 0 then (gX10_power_13 x1 x2 (1 : Int32) s1) else (gX10_power_13 x1 x2 (0 : Int32) s1)
def gX10_propose_81 (x1 : Int32) (x2 : Int32) (x3 : Int32) (x4 : Int32) (y0 : Int32) (s : MS) : Option (Int32 × MS) :=
  bdm (gX10_bad y0 (3 : Int32) s) fun z1 s1 => if z1 = 0 then (bd (rdF s1 28) fun z2 => bd (rdF s1 29) fun z3 => bd (rdF s1 30) fun z4 => bd (rdF s1 31) fun z5 => bdm (gX10_adds x1 x2 x3 x4 z2 z3 z4 z5 s1) fun z6 s6 => if z6 = 0 then (some ((0 : Int32), s6)) else (bd (ldA s6 11 5 x1) fun z7 => some (z7, s6))) else (some ((0 : Int32), s1))
def gX10_propose_76 (x1 : Int32) (x2 : Int32) (x3 : Int32) (x4 : Int32) (s : MS) : Option (Int32 × MS) :=
  gX10_propose_81 x1 x2 x3 x4 (1 : Int32) s
def gX10_propose_37 (x1 : Int32) (x2 : Int32) (x3 : Int32) (x4 : Int32) (y0 : Int32) (s : MS) : Option (Int32 × MS) :=
  bdm (gX10_bad y0 (2 : Int32) s) fun z1 s1 => if z1 = 0 then (bd (ldA s1 13 1 x1) fun z2 => if z2 = 0 then (gX10_propose_76 x1 x2 x3 x4 s1) else (bd (ldA s1 11 8 x1) fun z3 => if z3 = (2 : Int32) then (bd (ldA s1 11 5 x1) fun z4 => if z4 = (1200 : Int32) then (gX10_propose_76 x1 x2 x3 x4 s1) else (gX10_propose_81 x1 x2 x3 x4 (0 : Int32) s1)) else (gX10_propose_76 x1 x2 x3 x4 s1))) else (some ((0 : Int32), s1))
def gX10_propose_13 (x1 : Int32) (x2 : Int32) (x3 : Int32) (x4 : Int32) (y0 : Int32) (s : MS) : Option (Int32 × MS) :=
  bdm (gX10_bad y0 (1 : Int32) s) fun z1 s1 => if z1 = 0 then (bdm (gX10_isRight x2 x3 x4 s1) fun z2 s2 => if z2 = 0 then (gX10_propose_37 x1 x2 x3 x4 (1 : Int32) s2) else (gX10_propose_37 x1 x2 x3 x4 (0 : Int32) s2)) else (some ((0 : Int32), s1))
def gX10_propose (x1 : Int32) (x2 : Int32) (x3 : Int32) (x4 : Int32) (s : MS) : Option (Int32 × MS) :=
  bdm (gX10_isNode x1 s) fun z1 s1 => if z1 = 0 then (gX10_propose_13 x1 x2 x3 x4 (1 : Int32) s1) else (gX10_propose_13 x1 x2 x3 x4 (0 : Int32) s1)
def gX10_result_55 (x1 : Int32) (x2 : Int32) (y0 : Int32) (s : MS) : Option (Int32 × MS) :=
  bdm (gX10_bad y0 (2 : Int32) s) fun z1 s1 => if z1 = 0 then (bdm (gX10_work x1 s1) fun _ s2 => bd (ldA s2 11 38 x2) fun z3 => some (z3, s2)) else (some ((0 : Int32), s1))
def gX10_result_50 (x1 : Int32) (x2 : Int32) (s : MS) : Option (Int32 × MS) :=
  gX10_result_55 x1 x2 (1 : Int32) s
def gX10_result_13 (x1 : Int32) (x2 : Int32) (y0 : Int32) (s : MS) : Option (Int32 × MS) :=
  bdm (gX10_bad y0 (1 : Int32) s) fun z1 s1 => if z1 = 0 then (bd (ldA s1 13 1 x1) fun z2 => if z2 = 0 then (gX10_result_50 x1 x2 s1) else (bd (ldA s1 11 7 x1) fun z3 => if x2 ≤ z3 then (gX10_result_50 x1 x2 s1) else (bd (ldA s1 11 6 x1) fun z4 => if x2 ≤ z4 then (gX10_result_55 x1 x2 (0 : Int32) s1) else (gX10_result_50 x1 x2 s1)))) else (some ((0 : Int32), s1))
def gX10_result (x1 : Int32) (x2 : Int32) (s : MS) : Option (Int32 × MS) :=
  bdm (gX10_isNode x1 s) fun z1 s1 => if z1 = 0 then (gX10_result_13 x1 x2 (1 : Int32) s1) else (gX10_result_13 x1 x2 (0 : Int32) s1)
def gX10_shrink_50 (x1 : Int32) (y0 : Int32) (s : MS) : Option (Int32 × MS) :=
  bdm (gX10_bad y0 (2 : Int32) s) fun z1 s1 => if z1 = 0 then (bdm (gX10_record x1 s1) fun z2 s2 => if z2 = 0 then (bd (ldA s2 11 4 x1) fun z3 => some (z3, s2)) else (bd (ldA s2 11 6 x1) fun z4 => bd (stA s2 11 4 x1 z4) fun s5 => bd (ldA s5 11 4 x1) fun z6 => some (z6, s5))) else (some ((0 : Int32), s1))
def gX10_shrink_45 (x1 : Int32) (s : MS) : Option (Int32 × MS) :=
  gX10_shrink_50 x1 (1 : Int32) s
def gX10_shrink_13 (x1 : Int32) (y0 : Int32) (s : MS) : Option (Int32 × MS) :=
  bdm (gX10_bad y0 (1 : Int32) s) fun z1 s1 => if z1 = 0 then (bd (ldA s1 13 1 x1) fun z2 => if z2 = 0 then (gX10_shrink_45 x1 s1) else (bd (ldA s1 11 6 x1) fun z3 => bd (ldA s1 11 4 x1) fun z4 => if z3 = z4 then (gX10_shrink_45 x1 s1) else (gX10_shrink_50 x1 (0 : Int32) s1))) else (some ((0 : Int32), s1))
def gX10_shrink (x1 : Int32) (s : MS) : Option (Int32 × MS) :=
  bdm (gX10_isNode x1 s) fun z1 s1 => if z1 = 0 then (gX10_shrink_13 x1 (1 : Int32) s1) else (gX10_shrink_13 x1 (0 : Int32) s1)
def gX10_start_13 (x1 : Int32) (y0 : Int32) (s : MS) : Option (Int32 × MS) :=
  bdm (gX10_bad y0 (1 : Int32) s) fun z1 s1 => if z1 = 0 then (bd (ldA s1 13 1 x1) fun z2 => bdm (gX10_bad z2 (2 : Int32) s1) fun z3 s3 => if z3 = 0 then (bd (stB s3 13 1 x1 (1 : Int32)) fun s4 => bd (ldA s4 11 4 x1) fun z5 => bd (stA s4 11 6 x1 z5) fun s6 => bd (ldA s6 11 4 x1) fun z7 => bd (stA s6 11 7 x1 z7) fun s8 => bd (stA s8 11 9 x1 (0 : Int32)) fun s9 => bd (ldA s9 11 5 x1) fun z10 => some (z10, s9)) else (some ((0 : Int32), s3))) else (some ((0 : Int32), s1))
def gX10_start (x1 : Int32) (s : MS) : Option (Int32 × MS) :=
  bdm (gX10_isNode x1 s) fun z1 s1 => if z1 = 0 then (gX10_start_13 x1 (1 : Int32) s1) else (gX10_start_13 x1 (0 : Int32) s1)
def gX10_thrown  (s : MS) : Option (Int32 × MS) :=
  bd (rdF s 0) fun z1 => some (z1, s)
