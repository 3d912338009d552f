def gX7_addEvent (x1 : Int64) (s : SS) : Option (Unit × SS) :=
  bd (rd7 s 3) fun z1 => if (464 : Int32) ≤ z1 then (some ((), s)) else (bd (rd7 s 3) fun z2 => bd (sk7 s 12 1 z2 x1) fun s3 => bd (rd7 s3 3) fun z4 => bd (wr7 s3 3 (z4 + (1 : Int32))) fun s5 => some ((), s5))
def gX7_bitOfLease (x0 : Int32) (s : SS) : Option (Int32 × SS) :=
  some (((1 : Int32) <<< ((x0 - (1 : Int32)) &&& 31)), s)
def gX7_isPut (x0 : Int64) (s : SS) : Option (Int32 × SS) :=
  if (lg_cmp x0 (0 : Int64)) < 0 then (some ((0 : Int32), s)) else (some ((1 : Int32), s))
def gX7_revisionOf (x0 : Int64) (s : SS) : Option (Int32 × SS) :=
  bd7 (gX7_isPut x0 s) fun z1 s1 => if z1 = 0 then (some (((((-1 : Int64) - x0) >>> ((6 : Int32).toInt64 &&& 63)).toInt32), s1)) else (some (((x0 >>> ((38 : Int32).toInt64 &&& 63)).toInt32), s1))
def gX7_keyOf (x0 : Int64) (s : SS) : Option (Int32 × SS) :=
  bd7 (gX7_isPut x0 s) fun z1 s1 => if z1 = 0 then (some (((((-1 : Int64) - x0) &&& (63 : Int64)).toInt32), s1)) else (some ((((x0 >>> ((32 : Int32).toInt64 &&& 63)) &&& (63 : Int64)).toInt32), s1))
def gX7_valueOf (x0 : Int64) (s : SS) : Option (Int32 × SS) :=
  bd7 (gX7_isPut x0 s) fun z1 s1 => if z1 = 0 then (some ((0 : Int32), s1)) else (some ((x0.toInt32), s1))
def gX7_forgetCompacted_96 (x1 : Int32) (s : SS) : Option (Unit × SS) :=
  bd (rd7 s 3) fun z1 => bd (cp7 s 12 1 1 x1 (0 : Int32) (z1 - x1)) fun s2 => bd (rd7 s2 3) fun z3 => bd (wr7 s2 3 (z3 - x1)) fun s4 => some ((), s4)
def gX7_forgetCompacted_72 (k2 : Int32 → SS → Option (Unit × SS)) (x1 : Int32) (x2 : Int32) (y0 : Int64) (s : SS) : Option (Unit × SS) :=
  bd (wl7 s 10 y0) fun s1 => bd (lk7 s1 12 1 x1) fun z2 => bd7 (gX7_valueOf z2 s1) fun z3 s3 => bd (st7 s3 11 7 x2 z3) fun s4 => k2 (x1 + (1 : Int32)) s4
def gX7_forgetCompacted_2_body (k2 : Int32 → SS → Option (Unit × SS)) (x1 : Int32) (s : SS) : Option (Unit × SS) :=
  bd (rd7 s 3) fun z1 => if z1 ≤ x1 then (gX7_forgetCompacted_96 x1 s) else (bd (lk7 s 12 1 x1) fun z2 => bd7 (gX7_revisionOf z2 s) fun z3 s3 => bd (rd7 s3 1) fun z4 => if z4 < z3 then (gX7_forgetCompacted_96 x1 s3) else (bd (lk7 s3 12 1 x1) fun z5 => bd7 (gX7_keyOf z5 s3) fun z6 s6 => bd (lk7 s6 12 1 x1) fun z7 => bd7 (gX7_isPut z7 s6) fun z8 s8 => if z8 = 0 then (bd (rl7 s8 10) fun z9 => gX7_forgetCompacted_72 k2 x1 z6 (z9 &&& (((1 : Int64) <<< (z6.toInt64 &&& 63)) ^^^ (-1 : Int64))) s8) else (bd (rl7 s8 10) fun z10 => gX7_forgetCompacted_72 k2 x1 z6 (z10 ||| ((1 : Int64) <<< (z6.toInt64 &&& 63))) s8)))
def gX7_forgetCompacted_2 : Nat → Int32 → SS → Option (Unit × SS)
  | 0 => fun _ _ => none
  | n + 1 => gX7_forgetCompacted_2_body (gX7_forgetCompacted_2 n)
def gX7_forgetCompacted  (s : SS) : Option (Unit × SS) :=
  gX7_forgetCompacted_2 LF (0 : Int32) s
def gX7_compact (x1 : Int32) (s : SS) : Option (Int32 × SS) :=
  bd (rd7 s 1) fun z1 => if x1 ≤ z1 then (some ((0 : Int32), s)) else (bd (rd7 s 0) fun z2 => if x1 ≤ z2 then (bd (wr7 s 1 x1) fun s3 => bd7 (gX7_forgetCompacted s3) fun _ s4 => some ((1 : Int32), s4)) else (some ((0 : Int32), s)))
def gX7_compares (x0 : Int32) (x1 : Int32) (x2 : Int32) (s : SS) : Option (Int32 × SS) :=
  if x1 = 0 then (if x0 = x2 then (some ((1 : Int32), s)) else (some ((0 : Int32), s))) else (if x1 = (1 : Int32) then (if x2 ≤ x0 then (some ((0 : Int32), s)) else (some ((1 : Int32), s))) else (if x0 ≤ x2 then (some ((0 : Int32), s)) else (some ((1 : Int32), s))))
def gX7_endRevision (x1 : Int32) (s : SS) : Option (Unit × SS) :=
  if x1 ≤ 0 then (some ((), s)) else (bd (rd7 s 0) fun z1 => bd (wr7 s 0 (z1 + (1 : Int32))) fun s2 => some ((), s2))
def gX7_keysThere_22 (k4 : Int32 → Int32 → SS → Option (Int32 × SS)) (x1 : Int32) (x2 : Int32) (s : SS) : Option (Int32 × SS) :=
  k4 x1 (x2 + (1 : Int32)) s
def gX7_keysThere_4_body (k4 : Int32 → Int32 → SS → Option (Int32 × SS)) (x1 : Int32) (x2 : Int32) (s : SS) : Option (Int32 × SS) :=
  if (64 : Int32) ≤ x2 then (some (x1, s)) else (bd (ld7 s 11 2 x2) fun z1 => if z1 = 0 then (gX7_keysThere_22 k4 x1 x2 s) else (gX7_keysThere_22 k4 (x1 + (1 : Int32)) x2 s))
def gX7_keysThere_4 : Nat → Int32 → Int32 → SS → Option (Int32 × SS)
  | 0 => fun _ _ _ => none
  | n + 1 => gX7_keysThere_4_body (gX7_keysThere_4 n)
def gX7_keysThere  (s : SS) : Option (Int32 × SS) :=
  gX7_keysThere_4 LF (0 : Int32) (0 : Int32) s
def gX7_field (x1 : Int32) (s : SS) : Option (Int32 × SS) :=
  if x1 = (8 : Int32) then (bd (rd7 s 0) fun z6 => some (z6, s)) else (if x1 = (9 : Int32) then (bd (rd7 s 4) fun z5 => some (z5, s)) else (if x1 = (10 : Int32) then (bd (rd7 s 1) fun z4 => some (z4, s)) else (if x1 = (11 : Int32) then (bd7 (gX7_keysThere s) fun z3 s3 => some (z3, s3)) else (if x1 = (12 : Int32) then (bd (rd7 s 12) fun z2 => some (z2, s)) else (bd (rd7 s 3) fun z1 => some (z1, s))))))
def gX7_fingerprint_108_body (k108 : Int64 → Int32 → SS → Option (Int64 × SS)) (x1 : Int64) (x3 : Int32) (s : SS) : Option (Int64 × SS) :=
  bd (rd7 s 3) fun z1 => if z1 ≤ x3 then (bd (rd7 s 0) fun z2 => some (((x1 * (31 : Int64)) + (z2.toInt64)), s)) else (bd (lk7 s 12 1 x3) fun z3 => k108 ((x1 * (31 : Int64)) + z3) (x3 + (1 : Int32)) s)
def gX7_fingerprint_108 : Nat → Int64 → Int32 → SS → Option (Int64 × SS)
  | 0 => fun _ _ _ => none
  | n + 1 => gX7_fingerprint_108_body (gX7_fingerprint_108 n)
def gX7_fingerprint_100 (k6 : Int64 → Int32 → SS → Option (Int64 × SS)) (x1 : Int64) (x3 : Int32) (s : SS) : Option (Int64 × SS) :=
  k6 x1 (x3 + (1 : Int32)) s
def gX7_fingerprint_6_body (k6 : Int64 → Int32 → SS → Option (Int64 × SS)) (x1 : Int64) (x3 : Int32) (s : SS) : Option (Int64 × SS) :=
  if (64 : Int32) ≤ x3 then (gX7_fingerprint_108 LF x1 (0 : Int32) s) else (bd (ld7 s 11 2 x3) fun z1 => if z1 = 0 then (gX7_fingerprint_100 k6 x1 x3 s) else (bd (ld7 s 11 5 x3) fun z2 => bd (ld7 s 11 2 x3) fun z3 => bd (ld7 s 11 3 x3) fun z4 => bd (ld7 s 11 4 x3) fun z5 => bd (ld7 s 11 6 x3) fun z6 => gX7_fingerprint_100 k6 ((((((((((((x1 * (31 : Int64)) + (x3.toInt64)) * (31 : Int64)) + (z2.toInt64)) * (31 : Int64)) + (z3.toInt64)) * (31 : Int64)) + (z4.toInt64)) * (31 : Int64)) + (z5.toInt64)) * (31 : Int64)) + (z6.toInt64)) x3 s))
def gX7_fingerprint_6 : Nat → Int64 → Int32 → SS → Option (Int64 × SS)
  | 0 => fun _ _ _ => none
  | n + 1 => gX7_fingerprint_6_body (gX7_fingerprint_6 n)
def gX7_fingerprint  (s : SS) : Option (Int64 × SS) :=
  gX7_fingerprint_6 LF (7 : Int64) (0 : Int32) s
def gX7_firstEventFrom_2_body (k2 : Int32 → Int32 → SS → Option (Int32 × SS)) (x1 : Int32) (x2 : Int32) (s : SS) : Option (Int32 × SS) :=
  bd (rd7 s 3) fun z1 => if z1 ≤ x2 then (some (x2, s)) else (bd (lk7 s 12 1 x2) fun z2 => bd7 (gX7_revisionOf z2 s) fun z3 s3 => if x1 ≤ z3 then (some (x2, s3)) else (k2 x1 (x2 + (1 : Int32)) s3))
def gX7_firstEventFrom_2 : Nat → Int32 → Int32 → SS → Option (Int32 × SS)
  | 0 => fun _ _ _ => none
  | n + 1 => gX7_firstEventFrom_2_body (gX7_firstEventFrom_2 n)
def gX7_firstEventFrom (x1 : Int32) (s : SS) : Option (Int32 × SS) :=
  gX7_firstEventFrom_2 LF x1 (0 : Int32) s
def gX7_forgetBeyondLimit_2_body (k2 : Int32 → SS → Option (Unit × SS)) (x1 : Int32) (s : SS) : Option (Unit × SS) :=
  if (464 : Int32) ≤ x1 then (some ((), s)) else (bd (rd7 s 3) fun z1 => if z1 ≤ (400 : Int32) then (some ((), s)) else (bd (lk7 s 12 1 (0 : Int32)) fun z2 => bd7 (gX7_revisionOf z2 s) fun z3 s3 => bd (wr7 s3 1 z3) fun s4 => bd7 (gX7_forgetCompacted s4) fun _ s5 => k2 (x1 + (1 : Int32)) s5))
def gX7_forgetBeyondLimit_2 : Nat → Int32 → SS → Option (Unit × SS)
  | 0 => fun _ _ => none
  | n + 1 => gX7_forgetBeyondLimit_2_body (gX7_forgetBeyondLimit_2 n)
def gX7_forgetBeyondLimit  (s : SS) : Option (Unit × SS) :=
  gX7_forgetBeyondLimit_2 LF (0 : Int32) s
def gX9_isLease (x0 : Int32) (s : SS) : Option (Int32 × SS) :=
  if x0 < (1 : Int32) then (some ((0 : Int32), s)) else (if (8 : Int32) < x0 then (some ((0 : Int32), s)) else (some ((1 : Int32), s)))
def gX7_hasLease (x1 : Int32) (s : SS) : Option (Int32 × SS) :=
  bd7 (gX9_isLease x1 s) fun z1 s1 => if z1 = 0 then (some ((0 : Int32), s1)) else (bd (rd7 s1 12) fun z2 => bd7 (gX7_bitOfLease x1 s1) fun z3 s3 => if (z2 &&& z3) = 0 then (some ((0 : Int32), s3)) else (some ((1 : Int32), s3)))
def gX7_grant (x1 : Int32) (x2 : Int32) (s : SS) : Option (Int32 × SS) :=
  bd7 (gX9_isLease x1 s) fun z1 s1 => if z1 = 0 then (some ((0 : Int32), s1)) else (bd7 (gX7_hasLease x1 s1) fun z2 s2 => if z2 = 0 then (bd (rd7 s2 12) fun z3 => bd7 (gX7_bitOfLease x1 s2) fun z4 s4 => bd (wr7 s4 12 (z3 ||| z4)) fun s5 => bd (rd7 s5 4) fun z6 => bd (st7 s5 11 8 x1 (z6 + x2)) fun s7 => some ((1 : Int32), s7)) else (some ((0 : Int32), s2)))
def gX9_isKey (x0 : Int32) (s : SS) : Option (Int32 × SS) :=
  if x0 < 0 then (some ((0 : Int32), s)) else (if (64 : Int32) ≤ x0 then (some ((0 : Int32), s)) else (some ((1 : Int32), s)))
def gX7_keyField (x1 : Int32) (x2 : Int32) (s : SS) : Option (Int32 × SS) :=
  bd7 (gX9_isKey x1 s) fun z1 s1 => if z1 = 0 then (some ((0 : Int32), s1)) else (if x2 = (0 : Int32) then (bd (ld7 s1 11 2 x1) fun z6 => some (z6, s1)) else (if x2 = (1 : Int32) then (bd (ld7 s1 11 3 x1) fun z5 => some (z5, s1)) else (if x2 = (2 : Int32) then (bd (ld7 s1 11 4 x1) fun z4 => some (z4, s1)) else (if x2 = (3 : Int32) then (bd (ld7 s1 11 5 x1) fun z3 => some (z3, s1)) else (bd (ld7 s1 11 6 x1) fun z2 => some (z2, s1))))))
def gX7_latestEventOfKey_10_body (k10 : Int32 → Int32 → SS → Option (Int32 × SS)) (x1 : Int32) (x3 : Int32) (s : SS) : Option (Int32 × SS) :=
  if x3 < 0 then (some ((-1 : Int32), s)) else (bd (lk7 s 12 1 x3) fun z1 => bd7 (gX7_keyOf z1 s) fun z2 s2 => if z2 = x1 then (some (x3, s2)) else (k10 x1 (x3 + (-1 : Int32)) s2))
def gX7_latestEventOfKey_10 : Nat → Int32 → Int32 → SS → Option (Int32 × SS)
  | 0 => fun _ _ _ => none
  | n + 1 => gX7_latestEventOfKey_10_body (gX7_latestEventOfKey_10 n)
def gX7_latestEventOfKey (x1 : Int32) (x2 : Int32) (s : SS) : Option (Int32 × SS) :=
  bd7 (gX7_firstEventFrom (x2 + (1 : Int32)) s) fun z1 s1 => gX7_latestEventOfKey_10 LF x1 (z1 - (1 : Int32)) s1
def gX7_put_33 (x1 : Int32) (x2 : Int32) (x3 : Int32) (x4 : Int32) (s : SS) : Option (Unit × SS) :=
  bd (ld7 s 11 2 x1) fun z1 => bd (st7 s 11 2 x1 (z1 + (1 : Int32))) fun s2 => bd (st7 s2 11 4 x1 x4) fun s3 => bd (st7 s3 11 5 x1 x2) fun s4 => bd (st7 s4 11 6 x1 x3) fun s5 => bd7 (gX7_addEvent ((((x4.toInt64) <<< ((38 : Int32).toInt64 &&& 63)) + ((x1.toInt64) <<< ((32 : Int32).toInt64 &&& 63))) + ((x2.toInt64) &&& (4294967295 : Int64))) s5) fun _ s6 => bd7 (gX7_endRevision (1 : Int32) s6) fun _ s7 => some ((), s7)
def gX7_put (x1 : Int32) (x2 : Int32) (x3 : Int32) (s : SS) : Option (Unit × SS) :=
  bd7 (gX9_isKey x1 s) fun z1 s1 => if z1 = 0 then (some ((), s1)) else (bd (rd7 s1 0) fun z2 => bd (ld7 s1 11 2 x1) fun z3 => if z3 = 0 then (bd (st7 s1 11 3 x1 (z2 + (1 : Int32))) fun s4 => gX7_put_33 x1 x2 x3 (z2 + (1 : Int32)) s4) else (gX7_put_33 x1 x2 x3 (z2 + (1 : Int32)) s1))
def gX7_putWithLease_14 (x1 : Int32) (x2 : Int32) (x3 : Int32) (s : SS) : Option (Int32 × SS) :=
  bd7 (gX7_put x1 x2 x3 s) fun _ s1 => bd (rd7 s1 0) fun z2 => some (z2, s1)
def gX7_putWithLease (x1 : Int32) (x2 : Int32) (x3 : Int32) (s : SS) : Option (Int32 × SS) :=
  if x3 = 0 then (gX7_putWithLease_14 x1 x2 x3 s) else (bd7 (gX7_hasLease x3 s) fun z1 s1 => if z1 = 0 then (some ((-1 : Int32), s1)) else (gX7_putWithLease_14 x1 x2 x3 s1))
def gX7_remove (x1 : Int32) (s : SS) : Option (Int32 × SS) :=
  bd7 (gX9_isKey x1 s) fun z1 s1 => if z1 = 0 then (some ((0 : Int32), s1)) else (bd (ld7 s1 11 2 x1) fun z2 => if z2 = 0 then (some ((0 : Int32), s1)) else (bd (st7 s1 11 2 x1 (0 : Int32)) fun s3 => bd (st7 s3 11 3 x1 (0 : Int32)) fun s4 => bd (st7 s4 11 4 x1 (0 : Int32)) fun s5 => bd (st7 s5 11 5 x1 (0 : Int32)) fun s6 => bd (st7 s6 11 6 x1 (0 : Int32)) fun s7 => bd (rd7 s7 0) fun z8 => bd7 (gX7_addEvent ((-1 : Int64) - (((64 : Int64) * ((z8 + (1 : Int32)).toInt64)) + (x1.toInt64))) s7) fun _ s9 => some ((1 : Int32), s9)))
def gX7_removeRange_37 (x3 : Int32) (s : SS) : Option (Int32 × SS) :=
  bd7 (gX7_endRevision x3 s) fun _ s1 => some (x3, s1)
def gX7_removeRange_9_body (k9 : Int32 → Int32 → Int32 → SS → Option (Int32 × SS)) (x2 : Int32) (x3 : Int32) (x4 : Int32) (s : SS) : Option (Int32 × SS) :=
  if x2 < x4 then (gX7_removeRange_37 x3 s) else (if (64 : Int32) ≤ x4 then (gX7_removeRange_37 x3 s) else (bd7 (gX7_remove x4 s) fun z1 s1 => k9 x2 (x3 + z1) (x4 + (1 : Int32)) s1))
def gX7_removeRange_9 : Nat → Int32 → Int32 → Int32 → SS → Option (Int32 × SS)
  | 0 => fun _ _ _ _ => none
  | n + 1 => gX7_removeRange_9_body (gX7_removeRange_9 n)
def gX7_removeRange (x1 : Int32) (x2 : Int32) (s : SS) : Option (Int32 × SS) :=
  gX7_removeRange_9 LF x2 (0 : Int32) (mx x1 (0 : Int32)) s
def gX7_renew (x1 : Int32) (x2 : Int32) (s : SS) : Option (Int32 × SS) :=
  bd7 (gX7_hasLease x1 s) fun z1 s1 => if z1 = 0 then (some ((0 : Int32), s1)) else (bd (rd7 s1 4) fun z2 => bd (st7 s1 11 8 x1 (z2 + x2)) fun s3 => some ((1 : Int32), s3))
def gX7_revoke_53 (k29 : Int32 → Int32 → Int32 → SS → Option (Int32 × SS)) (x1 : Int32) (x2 : Int32) (x3 : Int32) (s : SS) : Option (Int32 × SS) :=
  k29 x1 x2 (x3 + (1 : Int32)) s
def gX7_revoke_29_body (k29 : Int32 → Int32 → Int32 → SS → Option (Int32 × SS)) (x1 : Int32) (x2 : Int32) (x3 : Int32) (s : SS) : Option (Int32 × SS) :=
  if (64 : Int32) ≤ x3 then (bd7 (gX7_endRevision x2 s) fun _ s1 => some (x2, s1)) else (bd (ld7 s 11 6 x3) fun z2 => if z2 = x1 then (bd7 (gX7_remove x3 s) fun z3 s3 => gX7_revoke_53 k29 x1 (x2 + z3) x3 s3) else (gX7_revoke_53 k29 x1 x2 x3 s))
def gX7_revoke_29 : Nat → Int32 → Int32 → Int32 → SS → Option (Int32 × SS)
  | 0 => fun _ _ _ _ => none
  | n + 1 => gX7_revoke_29_body (gX7_revoke_29 n)
def gX7_revoke (x1 : Int32) (s : SS) : Option (Int32 × SS) :=
  bd7 (gX7_hasLease x1 s) fun z1 s1 => if z1 = 0 then (some ((-1 : Int32), s1)) else (bd (rd7 s1 12) fun z2 => bd7 (gX7_bitOfLease x1 s1) fun z3 s3 => bd (wr7 s3 12 (z2 &&& (z3 ^^^ (-1 : Int32)))) fun s4 => gX7_revoke_29 LF x1 (0 : Int32) (0 : Int32) s4)
def gX7_tick_45 (k12 : Int32 → SS → Option (Int32 × SS)) (x1 : Int32) (s : SS) : Option (Int32 × SS) :=
  k12 (x1 + (1 : Int32)) s
def gX7_tick_12_body (k12 : Int32 → SS → Option (Int32 × SS)) (x1 : Int32) (s : SS) : Option (Int32 × SS) :=
  if (8 : Int32) < x1 then (bd (rd7 s 4) fun z1 => some (z1, s)) else (bd7 (gX7_hasLease x1 s) fun z2 s2 => if z2 = 0 then (gX7_tick_45 k12 x1 s2) else (bd (ld7 s2 11 8 x1) fun z3 => bd (rd7 s2 4) fun z4 => if z4 < z3 then (gX7_tick_45 k12 x1 s2) else (bd7 (gX7_revoke x1 s2) fun z5 s5 => gX7_tick_45 k12 x1 s5)))
def gX7_tick_12 : Nat → Int32 → SS → Option (Int32 × SS)
  | 0 => fun _ _ => none
  | n + 1 => gX7_tick_12_body (gX7_tick_12 n)
def gX7_tick  (s : SS) : Option (Int32 × SS) :=
  bd (rd7 s 4) fun z1 => bd (wr7 s 4 (z1 + (1 : Int32))) fun s2 => gX7_tick_12 LF (1 : Int32) s2
def gX7_valueThen_22 (x1 : Int32) (s : SS) : Option (Int32 × SS) :=
  bd7 (gX9_isKey x1 s) fun z1 s1 => if z1 = 0 then (some ((0 : Int32), s1)) else (bd (ld7 s1 11 7 x1) fun z2 => some (z2, s1))
def gX7_valueThen (x1 : Int32) (x2 : Int32) (s : SS) : Option (Int32 × SS) :=
  if x2 < 0 then (gX7_valueThen_22 x1 s) else (bd (rd7 s 3) fun z1 => if z1 ≤ x2 then (gX7_valueThen_22 x1 s) else (bd (lk7 s 12 1 x2) fun z2 => bd7 (gX7_valueOf z2 s) fun z3 s3 => some (z3, s3)))
def gX7_wasThere_22 (x1 : Int32) (s : SS) : Option (Int32 × SS) :=
  bd (rl7 s 10) fun z1 => if (lg_cmp (z1 &&& ((1 : Int64) <<< (x1.toInt64 &&& 63))) (0 : Int64)) = 0 then (some ((0 : Int32), s)) else (some ((1 : Int32), s))
def gX7_wasThere (x1 : Int32) (x2 : Int32) (s : SS) : Option (Int32 × SS) :=
  if x2 < 0 then (gX7_wasThere_22 x1 s) else (bd (rd7 s 3) fun z1 => if z1 ≤ x2 then (gX7_wasThere_22 x1 s) else (bd (lk7 s 12 1 x2) fun z2 => bd7 (gX7_isPut z2 s) fun z3 s3 => if z3 = 0 ∨ z3 = 1 then some (z3, s3) else none))
