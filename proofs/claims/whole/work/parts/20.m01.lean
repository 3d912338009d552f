def fJ6_bitCount_0f7a4 (x0 : Int32) (h : Hp) : Option (Int32 × Hp) :=
  some (((((((((x0 - (((x0.toUInt32 >>> ((1 : Int32).toUInt32 &&& Int32.toUInt32 31)).toInt32) &&& (1431655765 : Int32))) &&& (858993459 : Int32)) + ((((x0 - (((x0.toUInt32 >>> ((1 : Int32).toUInt32 &&& Int32.toUInt32 31)).toInt32) &&& (1431655765 : Int32))).toUInt32 >>> ((2 : Int32).toUInt32 &&& Int32.toUInt32 31)).toInt32) &&& (858993459 : Int32))) + (((((x0 - (((x0.toUInt32 >>> ((1 : Int32).toUInt32 &&& Int32.toUInt32 31)).toInt32) &&& (1431655765 : Int32))) &&& (858993459 : Int32)) + ((((x0 - (((x0.toUInt32 >>> ((1 : Int32).toUInt32 &&& Int32.toUInt32 31)).toInt32) &&& (1431655765 : Int32))).toUInt32 >>> ((2 : Int32).toUInt32 &&& Int32.toUInt32 31)).toInt32) &&& (858993459 : Int32))).toUInt32 >>> ((4 : Int32).toUInt32 &&& Int32.toUInt32 31)).toInt32)) &&& (252645135 : Int32)) + (((((((x0 - (((x0.toUInt32 >>> ((1 : Int32).toUInt32 &&& Int32.toUInt32 31)).toInt32) &&& (1431655765 : Int32))) &&& (858993459 : Int32)) + ((((x0 - (((x0.toUInt32 >>> ((1 : Int32).toUInt32 &&& Int32.toUInt32 31)).toInt32) &&& (1431655765 : Int32))).toUInt32 >>> ((2 : Int32).toUInt32 &&& Int32.toUInt32 31)).toInt32) &&& (858993459 : Int32))) + (((((x0 - (((x0.toUInt32 >>> ((1 : Int32).toUInt32 &&& Int32.toUInt32 31)).toInt32) &&& (1431655765 : Int32))) &&& (858993459 : Int32)) + ((((x0 - (((x0.toUInt32 >>> ((1 : Int32).toUInt32 &&& Int32.toUInt32 31)).toInt32) &&& (1431655765 : Int32))).toUInt32 >>> ((2 : Int32).toUInt32 &&& Int32.toUInt32 31)).toInt32) &&& (858993459 : Int32))).toUInt32 >>> ((4 : Int32).toUInt32 &&& Int32.toUInt32 31)).toInt32)) &&& (252645135 : Int32)).toUInt32 >>> ((8 : Int32).toUInt32 &&& Int32.toUInt32 31)).toInt32)) + ((((((((x0 - (((x0.toUInt32 >>> ((1 : Int32).toUInt32 &&& Int32.toUInt32 31)).toInt32) &&& (1431655765 : Int32))) &&& (858993459 : Int32)) + ((((x0 - (((x0.toUInt32 >>> ((1 : Int32).toUInt32 &&& Int32.toUInt32 31)).toInt32) &&& (1431655765 : Int32))).toUInt32 >>> ((2 : Int32).toUInt32 &&& Int32.toUInt32 31)).toInt32) &&& (858993459 : Int32))) + (((((x0 - (((x0.toUInt32 >>> ((1 : Int32).toUInt32 &&& Int32.toUInt32 31)).toInt32) &&& (1431655765 : Int32))) &&& (858993459 : Int32)) + ((((x0 - (((x0.toUInt32 >>> ((1 : Int32).toUInt32 &&& Int32.toUInt32 31)).toInt32) &&& (1431655765 : Int32))).toUInt32 >>> ((2 : Int32).toUInt32 &&& Int32.toUInt32 31)).toInt32) &&& (858993459 : Int32))).toUInt32 >>> ((4 : Int32).toUInt32 &&& Int32.toUInt32 31)).toInt32)) &&& (252645135 : Int32)) + (((((((x0 - (((x0.toUInt32 >>> ((1 : Int32).toUInt32 &&& Int32.toUInt32 31)).toInt32) &&& (1431655765 : Int32))) &&& (858993459 : Int32)) + ((((x0 - (((x0.toUInt32 >>> ((1 : Int32).toUInt32 &&& Int32.toUInt32 31)).toInt32) &&& (1431655765 : Int32))).toUInt32 >>> ((2 : Int32).toUInt32 &&& Int32.toUInt32 31)).toInt32) &&& (858993459 : Int32))) + (((((x0 - (((x0.toUInt32 >>> ((1 : Int32).toUInt32 &&& Int32.toUInt32 31)).toInt32) &&& (1431655765 : Int32))) &&& (858993459 : Int32)) + ((((x0 - (((x0.toUInt32 >>> ((1 : Int32).toUInt32 &&& Int32.toUInt32 31)).toInt32) &&& (1431655765 : Int32))).toUInt32 >>> ((2 : Int32).toUInt32 &&& Int32.toUInt32 31)).toInt32) &&& (858993459 : Int32))).toUInt32 >>> ((4 : Int32).toUInt32 &&& Int32.toUInt32 31)).toInt32)) &&& (252645135 : Int32)).toUInt32 >>> ((8 : Int32).toUInt32 &&& Int32.toUInt32 31)).toInt32)).toUInt32 >>> ((16 : Int32).toUInt32 &&& Int32.toUInt32 31)).toInt32)) &&& (63 : Int32)), h)
def fX0_init (x0 : Nat) (x1 : Int32) (x2 : Int32) (x3 : Int32) (x4 : Int32) (x5 : Int32) (x6 : Int32) (x7 : Int32) (h : Hp) : Option (Unit × Hp) :=
  bd (pI h 0 0 x0 x1) fun h1 => bd (pI h1 0 1 x0 x2) fun h2 => bd (pI h2 0 2 x0 x3) fun h3 => bd (pI h3 0 3 x0 x4) fun h4 => bd (pI h4 0 4 x0 x5) fun h5 => bd (pI h5 0 5 x0 x6) fun h6 => bd (pI h6 0 6 x0 x7) fun h7 => some ((), h7)
def fX0_isLike (x0 : Nat) (x1 : Nat) (h : Hp) : Option (Int32 × Hp) :=
  bd (gI h 0 0 x0) fun v1 => bd (gI h 0 0 x1) fun v2 => if v1 = v2 then (bd (gI h 0 1 x0) fun v4 => bd (gI h 0 1 x1) fun v5 => if v4 = v5 then (bd (gI h 0 2 x0) fun v7 => bd (gI h 0 2 x1) fun v8 => if v7 = v8 then (bd (gI h 0 3 x0) fun v10 => bd (gI h 0 3 x1) fun v11 => if v10 = v11 then (bd (gI h 0 4 x0) fun v13 => bd (gI h 0 4 x1) fun v14 => if v13 = v14 then (bd (gI h 0 5 x0) fun v16 => bd (gI h 0 5 x1) fun v17 => if v16 = v17 then (bd (gI h 0 6 x0) fun v19 => bd (gI h 0 6 x1) fun v20 => if v19 = v20 then (some ((1 : Int32), h)) else (some ((0 : Int32), h))) else (some ((0 : Int32), h))) else (some ((0 : Int32), h))) else (some ((0 : Int32), h))) else (some ((0 : Int32), h))) else (some ((0 : Int32), h))) else (some ((0 : Int32), h))
def fX1_entryAt (x0 : Nat) (x1 : Int32) (h : Hp) : Option (Option Nat × Hp) :=
  bd (gR h 1 3 x0) fun v1 => onR v1 (none) fun a2 => bd (gI h 6 1 a2) fun v3 => if x1 ≤ v3 then (some (none, h)) else (bd (gI h 1 2 x0) fun v5 => if v5 < x1 then (some (none, h)) else (bd (gR h 1 5 x0) fun v7 => onR v7 (none) fun a8 => bd (lnA h 14 a8) fun v9 => if x1 < v9 then (bd (gR h 1 5 x0) fun v11 => onR v11 (none) fun a12 => bd (ldR h 14 a12 x1) fun v13 => onR v13 (some (none, h)) fun a14 => some (some a14, h)) else (some (none, h))))
def fX1_entriesBehind_23_body (k23 : Nat → Int32 → Int32 → Nat → Int32 → Hp → Option (Option Nat × Hp)) (x0 : Nat) (x1 : Int32) (x2 : Int32) (x3 : Nat) (x4 : Int32) (h : Hp) : Option (Option Nat × Hp) :=
  if x2 ≤ x4 then (some (some x3, h)) else (if hK h x0 = some (1, 0) then (bd2 (fX1_entryAt x0 ((x1 + (1 : Int32)) + x4) h) fun v2 h2 => onR v2 (bd (stN h2 14 x3 x4) fun h5 => k23 x0 x1 x2 x3 (x4 + (1 : Int32)) h5) fun a3 => bd (stR h2 14 2 x3 x4 a3) fun h4 => k23 x0 x1 x2 x3 (x4 + (1 : Int32)) h4) else none)
def fX1_entriesBehind_23 : Nat → Nat → Int32 → Int32 → Nat → Int32 → Hp → Option (Option Nat × Hp)
  | 0 => fun _ _ _ _ _ _ => none
  | n + 1 => fX1_entriesBehind_23_body (fX1_entriesBehind_23 n)
def fX1_entriesBehind (x0 : Nat) (x1 : Int32) (h : Hp) : Option (Option Nat × Hp) :=
  bd (gI h 1 2 x0) fun v1 => bd (mkA h 14 (mx (0 : Int32) (mn (4 : Int32) (v1 - x1))) 4) fun h2 => fX1_entriesBehind_23 LF x0 x1 (mx (0 : Int32) (mn (4 : Int32) (v1 - x1))) (hZ h) (0 : Int32) h2
def fX1_powerFails (x0 : Nat) (h : Hp) : Option (Int32 × Hp) :=
  bd (gI h 1 4 x0) fun v1 => if v1 = 0 then (some ((1 : Int32), h)) else (bd (gI h 1 4 x0) fun v3 => if v3 ≤ 0 then (some ((0 : Int32), h)) else (bd (gI h 1 4 x0) fun v5 => bd (pI h 1 4 x0 (v5 - (1 : Int32))) fun h6 => some ((0 : Int32), h6)))
def fX1_termAt (x0 : Nat) (x1 : Int32) (h : Hp) : Option (Int32 × Hp) :=
  bd (gR h 1 3 x0) fun v1 => onR v1 (none) fun a2 => bd (gI h 6 1 a2) fun v3 => if x1 = v3 then (bd (gR h 1 3 x0) fun v8 => onR v8 (none) fun a9 => bd (gI h 6 2 a9) fun v10 => some (v10, h)) else (if hK h x0 = some (1, 0) then (bd2 (fX1_entryAt x0 x1 h) fun v5 h5 => onR v5 (some ((-1 : Int32), h5)) fun a6 => bd (gI h5 2 0 a6) fun v7 => some (v7, h5)) else none)
def fX1_recordVote (x0 : Nat) (x1 : Int32) (x2 : Int32) (h : Hp) : Option (Int32 × Hp) :=
  if hK h x0 = some (1, 0) then (bd2 (fX1_powerFails x0 h) fun v1 h1 => if v1 = 0 then (bd (pI h1 1 0 x0 x1) fun h3 => bd (pI h3 1 1 x0 x2) fun h4 => some ((1 : Int32), h4)) else (some ((0 : Int32), h1))) else none
def fX2_init (x0 : Nat) (x1 : Int32) (x2 : Nat) (h : Hp) : Option (Unit × Hp) :=
  bd (pI h 2 0 x0 x1) fun h1 => bd (pR h1 2 1 x0 (some x2)) fun h2 => some ((), h2)
abbrev rJ6_bitCount_0f7a4 : Room := { frames := 0, cells := 0, slots := 0, locals := 0 }
abbrev pJ6_bitCount_0f7a4 (D : va_G) (cy : Nat → ClassId) (s0 : Nat) (p : Program) (l : Launch) (e : Env) (s : State) (m : MethodId) (args : Array Value) (below : List Frame) (meth : Method) (c : Code) (r : Int32 × Hp) (x0 : Int32) (h : Hp) : Prop := ∀ (H : Heap) (locs : List Loc) (ls : Array Slot) (cells slots : Nat), cells + (0) ≤ 0 → slots + (0) ≤ 0 → WS D cy s0 s h H locs → lv_has ls 1 [(0, .int x0)] → W p l e rJ6_bitCount_0f7a4 s m args below meth c H locs cells slots (MQ below (QQ D cy s0 (some (.int r.1)) r.2) args s 0 0 (fun q => s0 ≤ q)) (F0 m 0 ls [])
set_option maxRecDepth 100000 in
set_option maxHeartbeats 4000000 in
theorem bJ6_bitCount_0f7a4 {D : va_G} {cy : Nat → ClassId} {s0 : Nat} {p : Program} {l : Launch} {e : Env} {s : State} {m : MethodId} {args : Array Value} {below : List Frame} {meth : Method} {c : Code} (C : CX D cy s0 p s m args meth c cJ6_bitCount_0f7a4 1 RJ6 (some .int)) (hn : meth.name = "bitCount") : ∀ (x0 : Int32) (h : Hp) (r : Int32 × Hp), fJ6_bitCount_0f7a4 x0 h = some r → pJ6_bitCount_0f7a4 D cy s0 p l e s m args below meth c r x0 h := by
  intro x0 h ⟨rv, rh⟩ hf H locs ls cells slots hc hs hw hl
  unfold fJ6_bitCount_0f7a4 at hf
  have hx := C.1
  have hb := C.2.1
  refine lv_iload_n hx hb dJ6_bitCount_0f7a4_0 rfl (lv_at hl 0 rfl) ?_
  refine lv_iload_n hx hb dJ6_bitCount_0f7a4_1 rfl (lv_at hl 0 rfl) ?_
  refine lv_iconst (v := (1 : Int32)) hx hb dJ6_bitCount_0f7a4_2 (by decide) ?_
  refine lv_iushr (v := (x0.toUInt32 >>> ((1 : Int32).toUInt32 &&& Int32.toUInt32 31)).toInt32) hx hb dJ6_bitCount_0f7a4_3 rfl ?_
  refine lv_ldcw (v := (1431655765 : Int32)) hx hb C.2.2.2.1 (C.2.2.2.2.1 _ w483) dJ6_bitCount_0f7a4_4 ?_
  refine lv_iand hx hb dJ6_bitCount_0f7a4_7 ?_
  refine lv_isub hx hb dJ6_bitCount_0f7a4_8 ?_
  refine lv_istore_n (lv' := [(0, .int (x0 - (((x0.toUInt32 >>> ((1 : Int32).toUInt32 &&& Int32.toUInt32 31)).toInt32) &&& (1431655765 : Int32))))]) hx hb dJ6_bitCount_0f7a4_9 rfl hl (by decide) rfl (fun ls hl => ?_)
  refine lv_iload_n hx hb dJ6_bitCount_0f7a4_10 rfl (lv_at hl 0 rfl) ?_
  refine lv_ldcw (v := (858993459 : Int32)) hx hb C.2.2.2.1 (C.2.2.2.2.1 _ w484) dJ6_bitCount_0f7a4_11 ?_
  refine lv_iand hx hb dJ6_bitCount_0f7a4_14 ?_
  refine lv_iload_n hx hb dJ6_bitCount_0f7a4_15 rfl (lv_at hl 0 rfl) ?_
  refine lv_iconst (v := (2 : Int32)) hx hb dJ6_bitCount_0f7a4_16 (by decide) ?_
  refine lv_iushr (v := ((x0 - (((x0.toUInt32 >>> ((1 : Int32).toUInt32 &&& Int32.toUInt32 31)).toInt32) &&& (1431655765 : Int32))).toUInt32 >>> ((2 : Int32).toUInt32 &&& Int32.toUInt32 31)).toInt32) hx hb dJ6_bitCount_0f7a4_17 rfl ?_
  refine lv_ldcw (v := (858993459 : Int32)) hx hb C.2.2.2.1 (C.2.2.2.2.1 _ w484) dJ6_bitCount_0f7a4_18 ?_
  refine lv_iand hx hb dJ6_bitCount_0f7a4_21 ?_
  refine lv_iadd hx hb dJ6_bitCount_0f7a4_22 ?_
  refine lv_istore_n (lv' := [(0, .int (((x0 - (((x0.toUInt32 >>> ((1 : Int32).toUInt32 &&& Int32.toUInt32 31)).toInt32) &&& (1431655765 : Int32))) &&& (858993459 : Int32)) + ((((x0 - (((x0.toUInt32 >>> ((1 : Int32).toUInt32 &&& Int32.toUInt32 31)).toInt32) &&& (1431655765 : Int32))).toUInt32 >>> ((2 : Int32).toUInt32 &&& Int32.toUInt32 31)).toInt32) &&& (858993459 : Int32))))]) hx hb dJ6_bitCount_0f7a4_23 rfl hl (by decide) rfl (fun ls hl => ?_)
  refine lv_iload_n hx hb dJ6_bitCount_0f7a4_24 rfl (lv_at hl 0 rfl) ?_
  refine lv_iload_n hx hb dJ6_bitCount_0f7a4_25 rfl (lv_at hl 0 rfl) ?_
  refine lv_iconst (v := (4 : Int32)) hx hb dJ6_bitCount_0f7a4_26 (by decide) ?_
  refine lv_iushr (v := ((((x0 - (((x0.toUInt32 >>> ((1 : Int32).toUInt32 &&& Int32.toUInt32 31)).toInt32) &&& (1431655765 : Int32))) &&& (858993459 : Int32)) + ((((x0 - (((x0.toUInt32 >>> ((1 : Int32).toUInt32 &&& Int32.toUInt32 31)).toInt32) &&& (1431655765 : Int32))).toUInt32 >>> ((2 : Int32).toUInt32 &&& Int32.toUInt32 31)).toInt32) &&& (858993459 : Int32))).toUInt32 >>> ((4 : Int32).toUInt32 &&& Int32.toUInt32 31)).toInt32) hx hb dJ6_bitCount_0f7a4_27 rfl ?_
  refine lv_iadd hx hb dJ6_bitCount_0f7a4_28 ?_
  refine lv_ldcw (v := (252645135 : Int32)) hx hb C.2.2.2.1 (C.2.2.2.2.1 _ w485) dJ6_bitCount_0f7a4_29 ?_
  refine lv_iand hx hb dJ6_bitCount_0f7a4_32 ?_
  refine lv_istore_n (lv' := [(0, .int (((((x0 - (((x0.toUInt32 >>> ((1 : Int32).toUInt32 &&& Int32.toUInt32 31)).toInt32) &&& (1431655765 : Int32))) &&& (858993459 : Int32)) + ((((x0 - (((x0.toUInt32 >>> ((1 : Int32).toUInt32 &&& Int32.toUInt32 31)).toInt32) &&& (1431655765 : Int32))).toUInt32 >>> ((2 : Int32).toUInt32 &&& Int32.toUInt32 31)).toInt32) &&& (858993459 : Int32))) + (((((x0 - (((x0.toUInt32 >>> ((1 : Int32).toUInt32 &&& Int32.toUInt32 31)).toInt32) &&& (1431655765 : Int32))) &&& (858993459 : Int32)) + ((((x0 - (((x0.toUInt32 >>> ((1 : Int32).toUInt32 &&& Int32.toUInt32 31)).toInt32) &&& (1431655765 : Int32))).toUInt32 >>> ((2 : Int32).toUInt32 &&& Int32.toUInt32 31)).toInt32) &&& (858993459 : Int32))).toUInt32 >>> ((4 : Int32).toUInt32 &&& Int32.toUInt32 31)).toInt32)) &&& (252645135 : Int32)))]) hx hb dJ6_bitCount_0f7a4_33 rfl hl (by decide) rfl (fun ls hl => ?_)
  refine lv_iload_n hx hb dJ6_bitCount_0f7a4_34 rfl (lv_at hl 0 rfl) ?_
  refine lv_iload_n hx hb dJ6_bitCount_0f7a4_35 rfl (lv_at hl 0 rfl) ?_
  refine lv_bipush (v := (8 : Int32)) hx hb dJ6_bitCount_0f7a4_36 (by decide) ?_
  refine lv_iushr (v := ((((((x0 - (((x0.toUInt32 >>> ((1 : Int32).toUInt32 &&& Int32.toUInt32 31)).toInt32) &&& (1431655765 : Int32))) &&& (858993459 : Int32)) + ((((x0 - (((x0.toUInt32 >>> ((1 : Int32).toUInt32 &&& Int32.toUInt32 31)).toInt32) &&& (1431655765 : Int32))).toUInt32 >>> ((2 : Int32).toUInt32 &&& Int32.toUInt32 31)).toInt32) &&& (858993459 : Int32))) + (((((x0 - (((x0.toUInt32 >>> ((1 : Int32).toUInt32 &&& Int32.toUInt32 31)).toInt32) &&& (1431655765 : Int32))) &&& (858993459 : Int32)) + ((((x0 - (((x0.toUInt32 >>> ((1 : Int32).toUInt32 &&& Int32.toUInt32 31)).toInt32) &&& (1431655765 : Int32))).toUInt32 >>> ((2 : Int32).toUInt32 &&& Int32.toUInt32 31)).toInt32) &&& (858993459 : Int32))).toUInt32 >>> ((4 : Int32).toUInt32 &&& Int32.toUInt32 31)).toInt32)) &&& (252645135 : Int32)).toUInt32 >>> ((8 : Int32).toUInt32 &&& Int32.toUInt32 31)).toInt32) hx hb dJ6_bitCount_0f7a4_38 rfl ?_
  refine lv_iadd hx hb dJ6_bitCount_0f7a4_39 ?_
  refine lv_istore_n (lv' := [(0, .int ((((((x0 - (((x0.toUInt32 >>> ((1 : Int32).toUInt32 &&& Int32.toUInt32 31)).toInt32) &&& (1431655765 : Int32))) &&& (858993459 : Int32)) + ((((x0 - (((x0.toUInt32 >>> ((1 : Int32).toUInt32 &&& Int32.toUInt32 31)).toInt32) &&& (1431655765 : Int32))).toUInt32 >>> ((2 : Int32).toUInt32 &&& Int32.toUInt32 31)).toInt32) &&& (858993459 : Int32))) + (((((x0 - (((x0.toUInt32 >>> ((1 : Int32).toUInt32 &&& Int32.toUInt32 31)).toInt32) &&& (1431655765 : Int32))) &&& (858993459 : Int32)) + ((((x0 - (((x0.toUInt32 >>> ((1 : Int32).toUInt32 &&& Int32.toUInt32 31)).toInt32) &&& (1431655765 : Int32))).toUInt32 >>> ((2 : Int32).toUInt32 &&& Int32.toUInt32 31)).toInt32) &&& (858993459 : Int32))).toUInt32 >>> ((4 : Int32).toUInt32 &&& Int32.toUInt32 31)).toInt32)) &&& (252645135 : Int32)) + (((((((x0 - (((x0.toUInt32 >>> ((1 : Int32).toUInt32 &&& Int32.toUInt32 31)).toInt32) &&& (1431655765 : Int32))) &&& (858993459 : Int32)) + ((((x0 - (((x0.toUInt32 >>> ((1 : Int32).toUInt32 &&& Int32.toUInt32 31)).toInt32) &&& (1431655765 : Int32))).toUInt32 >>> ((2 : Int32).toUInt32 &&& Int32.toUInt32 31)).toInt32) &&& (858993459 : Int32))) + (((((x0 - (((x0.toUInt32 >>> ((1 : Int32).toUInt32 &&& Int32.toUInt32 31)).toInt32) &&& (1431655765 : Int32))) &&& (858993459 : Int32)) + ((((x0 - (((x0.toUInt32 >>> ((1 : Int32).toUInt32 &&& Int32.toUInt32 31)).toInt32) &&& (1431655765 : Int32))).toUInt32 >>> ((2 : Int32).toUInt32 &&& Int32.toUInt32 31)).toInt32) &&& (858993459 : Int32))).toUInt32 >>> ((4 : Int32).toUInt32 &&& Int32.toUInt32 31)).toInt32)) &&& (252645135 : Int32)).toUInt32 >>> ((8 : Int32).toUInt32 &&& Int32.toUInt32 31)).toInt32)))]) hx hb dJ6_bitCount_0f7a4_40 rfl hl (by decide) rfl (fun ls hl => ?_)
  refine lv_iload_n hx hb dJ6_bitCount_0f7a4_41 rfl (lv_at hl 0 rfl) ?_
  refine lv_iload_n hx hb dJ6_bitCount_0f7a4_42 rfl (lv_at hl 0 rfl) ?_
  refine lv_bipush (v := (16 : Int32)) hx hb dJ6_bitCount_0f7a4_43 (by decide) ?_
  refine lv_iushr (v := (((((((x0 - (((x0.toUInt32 >>> ((1 : Int32).toUInt32 &&& Int32.toUInt32 31)).toInt32) &&& (1431655765 : Int32))) &&& (858993459 : Int32)) + ((((x0 - (((x0.toUInt32 >>> ((1 : Int32).toUInt32 &&& Int32.toUInt32 31)).toInt32) &&& (1431655765 : Int32))).toUInt32 >>> ((2 : Int32).toUInt32 &&& Int32.toUInt32 31)).toInt32) &&& (858993459 : Int32))) + (((((x0 - (((x0.toUInt32 >>> ((1 : Int32).toUInt32 &&& Int32.toUInt32 31)).toInt32) &&& (1431655765 : Int32))) &&& (858993459 : Int32)) + ((((x0 - (((x0.toUInt32 >>> ((1 : Int32).toUInt32 &&& Int32.toUInt32 31)).toInt32) &&& (1431655765 : Int32))).toUInt32 >>> ((2 : Int32).toUInt32 &&& Int32.toUInt32 31)).toInt32) &&& (858993459 : Int32))).toUInt32 >>> ((4 : Int32).toUInt32 &&& Int32.toUInt32 31)).toInt32)) &&& (252645135 : Int32)) + (((((((x0 - (((x0.toUInt32 >>> ((1 : Int32).toUInt32 &&& Int32.toUInt32 31)).toInt32) &&& (1431655765 : Int32))) &&& (858993459 : Int32)) + ((((x0 - (((x0.toUInt32 >>> ((1 : Int32).toUInt32 &&& Int32.toUInt32 31)).toInt32) &&& (1431655765 : Int32))).toUInt32 >>> ((2 : Int32).toUInt32 &&& Int32.toUInt32 31)).toInt32) &&& (858993459 : Int32))) + (((((x0 - (((x0.toUInt32 >>> ((1 : Int32).toUInt32 &&& Int32.toUInt32 31)).toInt32) &&& (1431655765 : Int32))) &&& (858993459 : Int32)) + ((((x0 - (((x0.toUInt32 >>> ((1 : Int32).toUInt32 &&& Int32.toUInt32 31)).toInt32) &&& (1431655765 : Int32))).toUInt32 >>> ((2 : Int32).toUInt32 &&& Int32.toUInt32 31)).toInt32) &&& (858993459 : Int32))).toUInt32 >>> ((4 : Int32).toUInt32 &&& Int32.toUInt32 31)).toInt32)) &&& (252645135 : Int32)).toUInt32 >>> ((8 : Int32).toUInt32 &&& Int32.toUInt32 31)).toInt32)).toUInt32 >>> ((16 : Int32).toUInt32 &&& Int32.toUInt32 31)).toInt32) hx hb dJ6_bitCount_0f7a4_45 rfl ?_
  refine lv_iadd hx hb dJ6_bitCount_0f7a4_46 ?_
  refine lv_istore_n (lv' := [(0, .int (((((((x0 - (((x0.toUInt32 >>> ((1 : Int32).toUInt32 &&& Int32.toUInt32 31)).toInt32) &&& (1431655765 : Int32))) &&& (858993459 : Int32)) + ((((x0 - (((x0.toUInt32 >>> ((1 : Int32).toUInt32 &&& Int32.toUInt32 31)).toInt32) &&& (1431655765 : Int32))).toUInt32 >>> ((2 : Int32).toUInt32 &&& Int32.toUInt32 31)).toInt32) &&& (858993459 : Int32))) + (((((x0 - (((x0.toUInt32 >>> ((1 : Int32).toUInt32 &&& Int32.toUInt32 31)).toInt32) &&& (1431655765 : Int32))) &&& (858993459 : Int32)) + ((((x0 - (((x0.toUInt32 >>> ((1 : Int32).toUInt32 &&& Int32.toUInt32 31)).toInt32) &&& (1431655765 : Int32))).toUInt32 >>> ((2 : Int32).toUInt32 &&& Int32.toUInt32 31)).toInt32) &&& (858993459 : Int32))).toUInt32 >>> ((4 : Int32).toUInt32 &&& Int32.toUInt32 31)).toInt32)) &&& (252645135 : Int32)) + (((((((x0 - (((x0.toUInt32 >>> ((1 : Int32).toUInt32 &&& Int32.toUInt32 31)).toInt32) &&& (1431655765 : Int32))) &&& (858993459 : Int32)) + ((((x0 - (((x0.toUInt32 >>> ((1 : Int32).toUInt32 &&& Int32.toUInt32 31)).toInt32) &&& (1431655765 : Int32))).toUInt32 >>> ((2 : Int32).toUInt32 &&& Int32.toUInt32 31)).toInt32) &&& (858993459 : Int32))) + (((((x0 - (((x0.toUInt32 >>> ((1 : Int32).toUInt32 &&& Int32.toUInt32 31)).toInt32) &&& (1431655765 : Int32))) &&& (858993459 : Int32)) + ((((x0 - (((x0.toUInt32 >>> ((1 : Int32).toUInt32 &&& Int32.toUInt32 31)).toInt32) &&& (1431655765 : Int32))).toUInt32 >>> ((2 : Int32).toUInt32 &&& Int32.toUInt32 31)).toInt32) &&& (858993459 : Int32))).toUInt32 >>> ((4 : Int32).toUInt32 &&& Int32.toUInt32 31)).toInt32)) &&& (252645135 : Int32)).toUInt32 >>> ((8 : Int32).toUInt32 &&& Int32.toUInt32 31)).toInt32)) + ((((((((x0 - (((x0.toUInt32 >>> ((1 : Int32).toUInt32 &&& Int32.toUInt32 31)).toInt32) &&& (1431655765 : Int32))) &&& (858993459 : Int32)) + ((((x0 - (((x0.toUInt32 >>> ((1 : Int32).toUInt32 &&& Int32.toUInt32 31)).toInt32) &&& (1431655765 : Int32))).toUInt32 >>> ((2 : Int32).toUInt32 &&& Int32.toUInt32 31)).toInt32) &&& (858993459 : Int32))) + (((((x0 - (((x0.toUInt32 >>> ((1 : Int32).toUInt32 &&& Int32.toUInt32 31)).toInt32) &&& (1431655765 : Int32))) &&& (858993459 : Int32)) + ((((x0 - (((x0.toUInt32 >>> ((1 : Int32).toUInt32 &&& Int32.toUInt32 31)).toInt32) &&& (1431655765 : Int32))).toUInt32 >>> ((2 : Int32).toUInt32 &&& Int32.toUInt32 31)).toInt32) &&& (858993459 : Int32))).toUInt32 >>> ((4 : Int32).toUInt32 &&& Int32.toUInt32 31)).toInt32)) &&& (252645135 : Int32)) + (((((((x0 - (((x0.toUInt32 >>> ((1 : Int32).toUInt32 &&& Int32.toUInt32 31)).toInt32) &&& (1431655765 : Int32))) &&& (858993459 : Int32)) + ((((x0 - (((x0.toUInt32 >>> ((1 : Int32).toUInt32 &&& Int32.toUInt32 31)).toInt32) &&& (1431655765 : Int32))).toUInt32 >>> ((2 : Int32).toUInt32 &&& Int32.toUInt32 31)).toInt32) &&& (858993459 : Int32))) + (((((x0 - (((x0.toUInt32 >>> ((1 : Int32).toUInt32 &&& Int32.toUInt32 31)).toInt32) &&& (1431655765 : Int32))) &&& (858993459 : Int32)) + ((((x0 - (((x0.toUInt32 >>> ((1 : Int32).toUInt32 &&& Int32.toUInt32 31)).toInt32) &&& (1431655765 : Int32))).toUInt32 >>> ((2 : Int32).toUInt32 &&& Int32.toUInt32 31)).toInt32) &&& (858993459 : Int32))).toUInt32 >>> ((4 : Int32).toUInt32 &&& Int32.toUInt32 31)).toInt32)) &&& (252645135 : Int32)).toUInt32 >>> ((8 : Int32).toUInt32 &&& Int32.toUInt32 31)).toInt32)).toUInt32 >>> ((16 : Int32).toUInt32 &&& Int32.toUInt32 31)).toInt32)))]) hx hb dJ6_bitCount_0f7a4_47 rfl hl (by decide) rfl (fun ls hl => ?_)
  refine lv_iload_n hx hb dJ6_bitCount_0f7a4_48 rfl (lv_at hl 0 rfl) ?_
  refine lv_bipush (v := (63 : Int32)) hx hb dJ6_bitCount_0f7a4_49 (by decide) ?_
  refine lv_iand hx hb dJ6_bitCount_0f7a4_51 ?_
  cases hf
  exact r_iret C hw rfl rfl (by omega) (by omega) dJ6_bitCount_0f7a4_52
theorem kXJ6_bitCount_0f7a4 : MK yJ6_bitCount_0f7a4 cJ6_bitCount_0f7a4 1 (some .int) 1 := ⟨w482, w15, by decide +kernel⟩
theorem mJ6_bitCount_0f7a4 {D : va_G} {cy : Nat → ClassId} {s0 : Nat} {l : Launch} {x0 : Int32} {h : Hp} {v : Int32} {h1 : Hp} (hf : fJ6_bitCount_0f7a4 x0 h = some (v, h1)) : MT D cy s0 l yJ6_bitCount_0f7a4 cJ6_bitCount_0f7a4 1 (some .int) rJ6_bitCount_0f7a4 [.int x0] h (some (.int v)) h1 := by
  refine MT.of (by decide +kernel) (Nat.le_of_ble_eq_true rfl) ?_
  intro p e s m below meth c H locs ls C hn hw hl
  exact bJ6_bitCount_0f7a4 C hn _ _ _ hf _ _ _ _ _ (Nat.le_of_ble_eq_true rfl) (Nat.le_of_ble_eq_true rfl) hw hl
abbrev rX0_init : Room := { frames := 1, cells := 0, slots := 0, locals := 24 }
abbrev pX0_init (D : va_G) (cy : Nat → ClassId) (s0 : Nat) (p : Program) (l : Launch) (e : Env) (s : State) (m : MethodId) (args : Array Value) (below : List Frame) (meth : Method) (c : Code) (r : Unit × Hp) (x0 : Nat) (x1 : Int32) (x2 : Int32) (x3 : Int32) (x4 : Int32) (x5 : Int32) (x6 : Int32) (x7 : Int32) (h : Hp) : Prop := ∀ (H : Heap) (locs : List Loc) (ls : Array Slot) (cells slots : Nat), cells + (0) ≤ 0 → slots + (0) ≤ 0 → WS D cy s0 s h H locs → lv_has ls 8 [(0, .ref x0), (1, .int x1), (2, .int x2), (3, .int x3), (4, .int x4), (5, .int x5), (6, .int x6), (7, .int x7)] → W p l e rX0_init s m args below meth c H locs cells slots (MQ below (QQ D cy s0 none r.2) args s 0 0 (fun q => s0 ≤ q)) (F0 m 0 ls [])
set_option maxRecDepth 100000 in
set_option maxHeartbeats 4000000 in
theorem bX0_init {D : va_G} {cy : Nat → ClassId} {s0 : Nat} {p : Program} {l : Launch} {e : Env} {s : State} {m : MethodId} {args : Array Value} {below : List Frame} {meth : Method} {c : Code} (C : CX D cy s0 p s m args meth c cX0_init 8 RX0 none) (hn : meth.name = "<init>") : ∀ (x0 : Nat) (x1 : Int32) (x2 : Int32) (x3 : Int32) (x4 : Int32) (x5 : Int32) (x6 : Int32) (x7 : Int32) (h : Hp) (r : Unit × Hp), fX0_init x0 x1 x2 x3 x4 x5 x6 x7 h = some r → pX0_init D cy s0 p l e s m args below meth c r x0 x1 x2 x3 x4 x5 x6 x7 h := by
  intro x0 x1 x2 x3 x4 x5 x6 x7 h ⟨rv, rh⟩ hf H locs ls cells slots hc hs hw hl
  unfold fX0_init at hf
  have hx := C.1
  have hb := C.2.1
  refine lv_aload_n hx hb dX0_init_0 rfl (lv_at hl 0 rfl) ?_
  refine W.objInit hx hb C.2.2.2.1 (C.2.2.2.2.1 _ w499) (C.2.2.2.2.1 _ w28) (C.2.2.2.2.1 _ w29) rfl (by rw [C.2.2.1]; exact hl.1) rfl dX0_init_1 (Nat.le_of_ble_eq_true rfl) (Nat.le_of_ble_eq_true rfl) ?_
  refine W.eq (g2 := F0 m 4 ls []) rfl ?_
  refine lv_aload_n hx hb dX0_init_4 rfl (lv_at hl 0 rfl) ?_
  refine lv_iload_n hx hb dX0_init_5 rfl (lv_at hl 1 rfl) ?_
  obtain ⟨h1, e1, hf⟩ := ob hf
  refine r_pI C hw e1 ck0 rfl (by decide) rfl w500 (Or.inr ⟨rfl, hn, rfl⟩) dX0_init_6 (fun H locs hw => ?_)
  refine lv_aload_n hx hb dX0_init_9 rfl (lv_at hl 0 rfl) ?_
  refine lv_iload_n hx hb dX0_init_10 rfl (lv_at hl 2 rfl) ?_
  obtain ⟨h2, e2, hf⟩ := ob hf
  refine r_pI C hw e2 ck0 rfl (by decide) rfl w502 (Or.inr ⟨rfl, hn, rfl⟩) dX0_init_11 (fun H locs hw => ?_)
  refine lv_aload_n hx hb dX0_init_14 rfl (lv_at hl 0 rfl) ?_
  refine lv_iload_n hx hb dX0_init_15 rfl (lv_at hl 3 rfl) ?_
  obtain ⟨h3, e3, hf⟩ := ob hf
  refine r_pI C hw e3 ck0 rfl (by decide) rfl w504 (Or.inr ⟨rfl, hn, rfl⟩) dX0_init_16 (fun H locs hw => ?_)
  refine lv_aload_n hx hb dX0_init_19 rfl (lv_at hl 0 rfl) ?_
  refine lv_iload hx hb dX0_init_20 (lv_at hl 4 rfl) ?_
  obtain ⟨h4, e4, hf⟩ := ob hf
  refine r_pI C hw e4 ck0 rfl (by decide) rfl w506 (Or.inr ⟨rfl, hn, rfl⟩) dX0_init_22 (fun H locs hw => ?_)
  refine lv_aload_n hx hb dX0_init_25 rfl (lv_at hl 0 rfl) ?_
  refine lv_iload hx hb dX0_init_26 (lv_at hl 5 rfl) ?_
  obtain ⟨h5, e5, hf⟩ := ob hf
  refine r_pI C hw e5 ck0 rfl (by decide) rfl w508 (Or.inr ⟨rfl, hn, rfl⟩) dX0_init_28 (fun H locs hw => ?_)
  refine lv_aload_n hx hb dX0_init_31 rfl (lv_at hl 0 rfl) ?_
  refine lv_iload hx hb dX0_init_32 (lv_at hl 6 rfl) ?_
  obtain ⟨h6, e6, hf⟩ := ob hf
  refine r_pI C hw e6 ck0 rfl (by decide) rfl w510 (Or.inr ⟨rfl, hn, rfl⟩) dX0_init_34 (fun H locs hw => ?_)
  refine lv_aload_n hx hb dX0_init_37 rfl (lv_at hl 0 rfl) ?_
  refine lv_iload hx hb dX0_init_38 (lv_at hl 7 rfl) ?_
  obtain ⟨h7, e7, hf⟩ := ob hf
  refine r_pI C hw e7 ck0 rfl (by decide) rfl w512 (Or.inr ⟨rfl, hn, rfl⟩) dX0_init_40 (fun H locs hw => ?_)
  cases hf
  exact r_vret C hw rfl (by omega) (by omega) dX0_init_43
theorem kXX0_init : MK yX0_init cX0_init 8 none 7 := ⟨w498, w16, by decide +kernel⟩
theorem mX0_init {D : va_G} {cy : Nat → ClassId} {s0 : Nat} {l : Launch} {x0 : Nat} {x1 : Int32} {x2 : Int32} {x3 : Int32} {x4 : Int32} {x5 : Int32} {x6 : Int32} {x7 : Int32} {h : Hp} {v : Unit} {h1 : Hp} (hf : fX0_init x0 x1 x2 x3 x4 x5 x6 x7 h = some (v, h1)) : MT D cy s0 l yX0_init cX0_init 8 none rX0_init [.ref x0, .int x1, .int x2, .int x3, .int x4, .int x5, .int x6, .int x7] h none h1 := by
  refine MT.of (by decide +kernel) (Nat.le_of_ble_eq_true rfl) ?_
  intro p e s m below meth c H locs ls C hn hw hl
  exact bX0_init C hn _ _ _ _ _ _ _ _ _ _ hf _ _ _ _ _ (Nat.le_of_ble_eq_true rfl) (Nat.le_of_ble_eq_true rfl) hw hl
abbrev rX0_isLike : Room := { frames := 0, cells := 0, slots := 0, locals := 0 }
abbrev pX0_isLike (D : va_G) (cy : Nat → ClassId) (s0 : Nat) (p : Program) (l : Launch) (e : Env) (s : State) (m : MethodId) (args : Array Value) (below : List Frame) (meth : Method) (c : Code) (r : Int32 × Hp) (x0 : Nat) (x1 : Nat) (h : Hp) : Prop := ∀ (H : Heap) (locs : List Loc) (ls : Array Slot) (cells slots : Nat), cells + (0) ≤ 0 → slots + (0) ≤ 0 → WS D cy s0 s h H locs → lv_has ls 2 [(0, .ref x0), (1, .ref x1)] → W p l e rX0_isLike s m args below meth c H locs cells slots (MQ below (QQ D cy s0 (some (.int r.1)) r.2) args s 0 0 (fun q => s0 ≤ q)) (F0 m 0 ls [])
set_option maxRecDepth 100000 in
set_option maxHeartbeats 4000000 in
theorem bX0_isLike {D : va_G} {cy : Nat → ClassId} {s0 : Nat} {p : Program} {l : Launch} {e : Env} {s : State} {m : MethodId} {args : Array Value} {below : List Frame} {meth : Method} {c : Code} (C : CX D cy s0 p s m args meth c cX0_isLike 2 RX0 (some .boolean)) (hn : meth.name = "isLike") : ∀ (x0 : Nat) (x1 : Nat) (h : Hp) (r : Int32 × Hp), fX0_isLike x0 x1 h = some r → pX0_isLike D cy s0 p l e s m args below meth c r x0 x1 h := by
  intro x0 x1 h ⟨rv, rh⟩ hf H locs ls cells slots hc hs hw hl
  unfold fX0_isLike at hf
  have hx := C.1
  have hb := C.2.1
  refine lv_aload_n hx hb dX0_isLike_0 rfl (lv_at hl 0 rfl) ?_
  obtain ⟨v1, e1, hf⟩ := ob hf
  refine r_gI C hw e1 ck0 rfl (by decide) w500 dX0_isLike_1 ?_
  refine lv_aload_n hx hb dX0_isLike_4 rfl (lv_at hl 1 rfl) ?_
  obtain ⟨v2, e2, hf⟩ := ob hf
  refine r_gI C hw e2 ck0 rfl (by decide) w500 dX0_isLike_5 ?_
  refine lv_icmp_ne (tgt := 81) hx hb dX0_isLike_8 (by decide) (fun c3 => ?_) (fun c3 => ?_)
  · have hf := ie hf c3
    refine lv_iconst (v := (0 : Int32)) hx hb dX0_isLike_81 (by decide) ?_
    cases hf
    exact r_iret C hw rfl (nz (Or.inl rfl)) (by omega) (by omega) dX0_isLike_82
  · have hf := ip hf c3
    refine lv_aload_n hx hb dX0_isLike_11 rfl (lv_at hl 0 rfl) ?_
    obtain ⟨v4, e4, hf⟩ := ob hf
    refine r_gI C hw e4 ck0 rfl (by decide) w502 dX0_isLike_12 ?_
    refine lv_aload_n hx hb dX0_isLike_15 rfl (lv_at hl 1 rfl) ?_
    obtain ⟨v5, e5, hf⟩ := ob hf
    refine r_gI C hw e5 ck0 rfl (by decide) w502 dX0_isLike_16 ?_
    refine lv_icmp_ne (tgt := 81) hx hb dX0_isLike_19 (by decide) (fun c6 => ?_) (fun c6 => ?_)
    · have hf := ie hf c6
      refine lv_iconst (v := (0 : Int32)) hx hb dX0_isLike_81 (by decide) ?_
      cases hf
      exact r_iret C hw rfl (nz (Or.inl rfl)) (by omega) (by omega) dX0_isLike_82
    · have hf := ip hf c6
      refine lv_aload_n hx hb dX0_isLike_22 rfl (lv_at hl 0 rfl) ?_
      obtain ⟨v7, e7, hf⟩ := ob hf
      refine r_gI C hw e7 ck0 rfl (by decide) w504 dX0_isLike_23 ?_
      refine lv_aload_n hx hb dX0_isLike_26 rfl (lv_at hl 1 rfl) ?_
      obtain ⟨v8, e8, hf⟩ := ob hf
      refine r_gI C hw e8 ck0 rfl (by decide) w504 dX0_isLike_27 ?_
      refine lv_icmp_ne (tgt := 81) hx hb dX0_isLike_30 (by decide) (fun c9 => ?_) (fun c9 => ?_)
      · have hf := ie hf c9
        refine lv_iconst (v := (0 : Int32)) hx hb dX0_isLike_81 (by decide) ?_
        cases hf
        exact r_iret C hw rfl (nz (Or.inl rfl)) (by omega) (by omega) dX0_isLike_82
      · have hf := ip hf c9
        refine lv_aload_n hx hb dX0_isLike_33 rfl (lv_at hl 0 rfl) ?_
        obtain ⟨v10, e10, hf⟩ := ob hf
        refine r_gI C hw e10 ck0 rfl (by decide) w506 dX0_isLike_34 ?_
        refine lv_aload_n hx hb dX0_isLike_37 rfl (lv_at hl 1 rfl) ?_
        obtain ⟨v11, e11, hf⟩ := ob hf
        refine r_gI C hw e11 ck0 rfl (by decide) w506 dX0_isLike_38 ?_
        refine lv_icmp_ne (tgt := 81) hx hb dX0_isLike_41 (by decide) (fun c12 => ?_) (fun c12 => ?_)
        · have hf := ie hf c12
          refine lv_iconst (v := (0 : Int32)) hx hb dX0_isLike_81 (by decide) ?_
          cases hf
          exact r_iret C hw rfl (nz (Or.inl rfl)) (by omega) (by omega) dX0_isLike_82
        · have hf := ip hf c12
          refine lv_aload_n hx hb dX0_isLike_44 rfl (lv_at hl 0 rfl) ?_
          obtain ⟨v13, e13, hf⟩ := ob hf
          refine r_gI C hw e13 ck0 rfl (by decide) w508 dX0_isLike_45 ?_
          refine lv_aload_n hx hb dX0_isLike_48 rfl (lv_at hl 1 rfl) ?_
          obtain ⟨v14, e14, hf⟩ := ob hf
          refine r_gI C hw e14 ck0 rfl (by decide) w508 dX0_isLike_49 ?_
          refine lv_icmp_ne (tgt := 81) hx hb dX0_isLike_52 (by decide) (fun c15 => ?_) (fun c15 => ?_)
          · have hf := ie hf c15
            refine lv_iconst (v := (0 : Int32)) hx hb dX0_isLike_81 (by decide) ?_
            cases hf
            exact r_iret C hw rfl (nz (Or.inl rfl)) (by omega) (by omega) dX0_isLike_82
          · have hf := ip hf c15
            refine lv_aload_n hx hb dX0_isLike_55 rfl (lv_at hl 0 rfl) ?_
            obtain ⟨v16, e16, hf⟩ := ob hf
            refine r_gI C hw e16 ck0 rfl (by decide) w510 dX0_isLike_56 ?_
            refine lv_aload_n hx hb dX0_isLike_59 rfl (lv_at hl 1 rfl) ?_
            obtain ⟨v17, e17, hf⟩ := ob hf
            refine r_gI C hw e17 ck0 rfl (by decide) w510 dX0_isLike_60 ?_
            refine lv_icmp_ne (tgt := 81) hx hb dX0_isLike_63 (by decide) (fun c18 => ?_) (fun c18 => ?_)
            · have hf := ie hf c18
              refine lv_iconst (v := (0 : Int32)) hx hb dX0_isLike_81 (by decide) ?_
              cases hf
              exact r_iret C hw rfl (nz (Or.inl rfl)) (by omega) (by omega) dX0_isLike_82
            · have hf := ip hf c18
              refine lv_aload_n hx hb dX0_isLike_66 rfl (lv_at hl 0 rfl) ?_
              obtain ⟨v19, e19, hf⟩ := ob hf
              refine r_gI C hw e19 ck0 rfl (by decide) w512 dX0_isLike_67 ?_
              refine lv_aload_n hx hb dX0_isLike_70 rfl (lv_at hl 1 rfl) ?_
              obtain ⟨v20, e20, hf⟩ := ob hf
              refine r_gI C hw e20 ck0 rfl (by decide) w512 dX0_isLike_71 ?_
              refine lv_icmp_ne (tgt := 81) hx hb dX0_isLike_74 (by decide) (fun c21 => ?_) (fun c21 => ?_)
              · have hf := ie hf c21
                refine lv_iconst (v := (0 : Int32)) hx hb dX0_isLike_81 (by decide) ?_
                cases hf
                exact r_iret C hw rfl (nz (Or.inl rfl)) (by omega) (by omega) dX0_isLike_82
              · have hf := ip hf c21
                refine lv_iconst (v := (1 : Int32)) hx hb dX0_isLike_77 (by decide) ?_
                refine lv_goto (tgt := 82) hx hb dX0_isLike_78 (by decide) ?_
                cases hf
                exact r_iret C hw rfl (nz (Or.inr rfl)) (by omega) (by omega) dX0_isLike_82
theorem kXX0_isLike : MK yX0_isLike cX0_isLike 2 (some .boolean) 1 := ⟨w633, w16, by decide +kernel⟩
theorem mX0_isLike {D : va_G} {cy : Nat → ClassId} {s0 : Nat} {l : Launch} {x0 : Nat} {x1 : Nat} {h : Hp} {v : Int32} {h1 : Hp} (hf : fX0_isLike x0 x1 h = some (v, h1)) : MT D cy s0 l yX0_isLike cX0_isLike 2 (some .boolean) rX0_isLike [.ref x0, .ref x1] h (some (.int v)) h1 := by
  refine MT.of (by decide +kernel) (Nat.le_of_ble_eq_true rfl) ?_
  intro p e s m below meth c H locs ls C hn hw hl
  exact bX0_isLike C hn _ _ _ _ hf _ _ _ _ _ (Nat.le_of_ble_eq_true rfl) (Nat.le_of_ble_eq_true rfl) hw hl
abbrev rX1_entryAt : Room := { frames := 0, cells := 0, slots := 0, locals := 0 }
abbrev pX1_entryAt (D : va_G) (cy : Nat → ClassId) (s0 : Nat) (p : Program) (l : Launch) (e : Env) (s : State) (m : MethodId) (args : Array Value) (below : List Frame) (meth : Method) (c : Code) (r : Option Nat × Hp) (x0 : Nat) (x1 : Int32) (h : Hp) : Prop := ∀ (H : Heap) (locs : List Loc) (ls : Array Slot) (cells slots : Nat), cells + (0) ≤ 0 → slots + (0) ≤ 0 → WS D cy s0 s h H locs → lv_has ls 2 [(0, .ref x0), (1, .int x1)] → W p l e rX1_entryAt s m args below meth c H locs cells slots (MQ below (QQ D cy s0 (some (va_rf r.1)) r.2) args s 0 0 (fun q => s0 ≤ q)) (F0 m 0 ls [])
set_option maxRecDepth 100000 in
set_option maxHeartbeats 4000000 in
theorem bX1_entryAt {D : va_G} {cy : Nat → ClassId} {s0 : Nat} {p : Program} {l : Launch} {e : Env} {s : State} {m : MethodId} {args : Array Value} {below : List Frame} {meth : Method} {c : Code} (C : CX D cy s0 p s m args meth c cX1_entryAt 2 RX1 (some (.object "RaftRegistry$Entry"))) (hn : meth.name = "entryAt") : ∀ (x0 : Nat) (x1 : Int32) (h : Hp) (r : Option Nat × Hp), fX1_entryAt x0 x1 h = some r → pX1_entryAt D cy s0 p l e s m args below meth c r x0 x1 h := by
  intro x0 x1 h ⟨rv, rh⟩ hf H locs ls cells slots hc hs hw hl
  unfold fX1_entryAt at hf
  have hx := C.1
  have hb := C.2.1
  refine lv_iload_n hx hb dX1_entryAt_0 rfl (lv_at hl 1 rfl) ?_
  refine lv_aload_n hx hb dX1_entryAt_1 rfl (lv_at hl 0 rfl) ?_
  obtain ⟨v1, e1, hf⟩ := ob hf
  refine r_gR C hw e1 ck1 rfl (by decide) w169 dX1_entryAt_2 ?_
  cases v1 with
  | none =>
    have hf := on_n hf
    cases hf
  | some a2 =>
    have hf := on_s hf
    refine W.eq (g2 := F0 m 5 ls [.ref a2, .int x1]) rfl ?_
    obtain ⟨v3, e3, hf⟩ := ob hf
    refine r_gI C hw e3 ck6 rfl (by decide) w133 dX1_entryAt_5 ?_
    refine lv_icmp_le (tgt := 28) hx hb dX1_entryAt_8 (by decide) (fun c4 => ?_) (fun c4 => ?_)
    · have hf := ip hf c4
      refine lv_null hx hb dX1_entryAt_28 ?_
      cases hf
      exact r_aret C hw rfl rfl (Or.inl ⟨_, rfl⟩) (by omega) (by omega) dX1_entryAt_29
    · have hf := ie hf c4
      refine lv_iload_n hx hb dX1_entryAt_11 rfl (lv_at hl 1 rfl) ?_
      refine lv_aload_n hx hb dX1_entryAt_12 rfl (lv_at hl 0 rfl) ?_
      obtain ⟨v5, e5, hf⟩ := ob hf
      refine r_gI C hw e5 ck1 rfl (by decide) w167 dX1_entryAt_13 ?_
      refine lv_icmp_gt (tgt := 28) hx hb dX1_entryAt_16 (by decide) (fun c6 => ?_) (fun c6 => ?_)
      · have hf := ip hf c6
        refine lv_null hx hb dX1_entryAt_28 ?_
        cases hf
        exact r_aret C hw rfl rfl (Or.inl ⟨_, rfl⟩) (by omega) (by omega) dX1_entryAt_29
      · have hf := ie hf c6
        refine lv_iload_n hx hb dX1_entryAt_19 rfl (lv_at hl 1 rfl) ?_
        refine lv_aload_n hx hb dX1_entryAt_20 rfl (lv_at hl 0 rfl) ?_
        obtain ⟨v7, e7, hf⟩ := ob hf
        refine r_gR C hw e7 ck1 rfl (by decide) w175 dX1_entryAt_21 ?_
        cases v7 with
        | none =>
          have hf := on_n hf
          cases hf
        | some a8 =>
          have hf := on_s hf
          refine W.eq (g2 := F0 m 24 ls [.ref a8, .int x1]) rfl ?_
          obtain ⟨v9, e9, hf⟩ := ob hf
          refine r_alen C hw e9 (by decide) rfl dX1_entryAt_24 ?_
          refine lv_icmp_lt (tgt := 30) hx hb dX1_entryAt_25 (by decide) (fun c10 => ?_) (fun c10 => ?_)
          · have hf := ip hf c10
            refine lv_aload_n hx hb dX1_entryAt_30 rfl (lv_at hl 0 rfl) ?_
            obtain ⟨v11, e11, hf⟩ := ob hf
            refine r_gR C hw e11 ck1 rfl (by decide) w175 dX1_entryAt_31 ?_
            cases v11 with
            | none =>
              have hf := on_n hf
              cases hf
            | some a12 =>
              have hf := on_s hf
              refine W.eq (g2 := F0 m 34 ls [.ref a12]) rfl ?_
              refine lv_iload_n hx hb dX1_entryAt_34 rfl (lv_at hl 1 rfl) ?_
              obtain ⟨v13, e13, hf⟩ := ob hf
              refine r_aald C hw e13 (by decide) rfl dX1_entryAt_35 ?_
              cases v13 with
              | none =>
                have hf := on_n hf
                refine W.eq (g2 := F0 m 36 ls [.null]) rfl ?_
                cases hf
                exact r_aret C hw rfl rfl (Or.inl ⟨_, rfl⟩) (by omega) (by omega) dX1_entryAt_36
              | some a14 =>
                have hf := on_s hf
                refine W.eq (g2 := F0 m 36 ls [.ref a14]) rfl ?_
                cases hf
                exact r_aret C hw rfl rfl (Or.inl ⟨_, rfl⟩) (by omega) (by omega) dX1_entryAt_36
          · have hf := ie hf c10
            refine lv_null hx hb dX1_entryAt_28 ?_
            cases hf
            exact r_aret C hw rfl rfl (Or.inl ⟨_, rfl⟩) (by omega) (by omega) dX1_entryAt_29
theorem kXX1_entryAt : MK yX1_entryAt cX1_entryAt 2 (some (.object "RaftRegistry$Entry")) 1 := ⟨w397, w7, by decide +kernel⟩
theorem mX1_entryAt {D : va_G} {cy : Nat → ClassId} {s0 : Nat} {l : Launch} {x0 : Nat} {x1 : Int32} {h : Hp} {v : Option Nat} {h1 : Hp} (hf : fX1_entryAt x0 x1 h = some (v, h1)) : MT D cy s0 l yX1_entryAt cX1_entryAt 2 (some (.object "RaftRegistry$Entry")) rX1_entryAt [.ref x0, .int x1] h (some (va_rf v)) h1 := by
  refine MT.of (by decide +kernel) (Nat.le_of_ble_eq_true rfl) ?_
  intro p e s m below meth c H locs ls C hn hw hl
  exact bX1_entryAt C hn _ _ _ _ hf _ _ _ _ _ (Nat.le_of_ble_eq_true rfl) (Nat.le_of_ble_eq_true rfl) hw hl
abbrev rX1_entriesBehind : Room := { frames := 1, cells := 1, slots := 4, locals := 32 }
abbrev pX1_entriesBehind_23 (D : va_G) (cy : Nat → ClassId) (s0 : Nat) (p : Program) (l : Launch) (e : Env) (s : State) (m : MethodId) (args : Array Value) (below : List Frame) (meth : Method) (c : Code) (r : Option Nat × Hp) (x0 : Nat) (x1 : Int32) (x2 : Int32) (x3 : Nat) (x4 : Int32) (h : Hp) : Prop := ∀ (H : Heap) (locs : List Loc) (ls : Array Slot) (cells slots : Nat), cells + (0) ≤ 1 → slots + (0) ≤ 4 → WS D cy s0 s h H locs → lv_has ls 5 [(0, .ref x0), (1, .int x1), (2, .int x2), (3, .ref x3), (4, .int x4)] → W p l e rX1_entriesBehind s m args below meth c H locs cells slots (MQ below (QQ D cy s0 (some (va_rf r.1)) r.2) args s 1 4 (fun q => s0 ≤ q)) (F0 m 23 ls [])
set_option maxRecDepth 100000 in
set_option maxHeartbeats 4000000 in
theorem bX1_entriesBehind_23_body {D : va_G} {cy : Nat → ClassId} {s0 : Nat} {p : Program} {l : Launch} {e : Env} {s : State} {m : MethodId} {args : Array Value} {below : List Frame} {meth : Method} {c : Code} (C : CX D cy s0 p s m args meth c cX1_entriesBehind 5 RX1 (some (.array (.object "RaftRegistry$Entry")))) (hn : meth.name = "entriesBehind") {k23 : Nat → Int32 → Int32 → Nat → Int32 → Hp → Option (Option Nat × Hp)} (hk23 : ∀ (x0 : Nat) (x1 : Int32) (x2 : Int32) (x3 : Nat) (x4 : Int32) (h : Hp) (r : Option Nat × Hp), k23 x0 x1 x2 x3 x4 h = some r → pX1_entriesBehind_23 D cy s0 p l e s m args below meth c r x0 x1 x2 x3 x4 h) : ∀ (x0 : Nat) (x1 : Int32) (x2 : Int32) (x3 : Nat) (x4 : Int32) (h : Hp) (r : Option Nat × Hp), fX1_entriesBehind_23_body k23 x0 x1 x2 x3 x4 h = some r → pX1_entriesBehind_23 D cy s0 p l e s m args below meth c r x0 x1 x2 x3 x4 h := by
  intro x0 x1 x2 x3 x4 h ⟨rv, rh⟩ hf H locs ls cells slots hc hs hw hl
  unfold fX1_entriesBehind_23_body at hf
  have hx := C.1
  have hb := C.2.1
  refine lv_iload hx hb dX1_entriesBehind_23 (lv_at hl 4 rfl) ?_
  refine lv_iload_n hx hb dX1_entriesBehind_25 rfl (lv_at hl 2 rfl) ?_
  refine lv_icmp_ge (tgt := 49) hx hb dX1_entriesBehind_26 (by decide) (fun c1 => ?_) (fun c1 => ?_)
  · have hf := ip hf c1
    refine lv_aload_n hx hb dX1_entriesBehind_49 rfl (lv_at hl 3 rfl) ?_
    cases hf
    exact r_aret C hw rfl rfl (Or.inr ⟨_, rfl⟩) (by omega) (by omega) dX1_entriesBehind_50
  · have hf := ie hf c1
    refine lv_aload_n hx hb dX1_entriesBehind_29 rfl (lv_at hl 3 rfl) ?_
    refine lv_iload hx hb dX1_entriesBehind_30 (lv_at hl 4 rfl) ?_
    refine lv_aload_n hx hb dX1_entriesBehind_32 rfl (lv_at hl 0 rfl) ?_
    refine lv_iload_n hx hb dX1_entriesBehind_33 rfl (lv_at hl 1 rfl) ?_
    refine lv_iconst (v := (1 : Int32)) hx hb dX1_entriesBehind_34 (by decide) ?_
    refine lv_iadd hx hb dX1_entriesBehind_35 ?_
    refine lv_iload hx hb dX1_entriesBehind_36 (lv_at hl 4 rfl) ?_
    refine lv_iadd hx hb dX1_entriesBehind_38 ?_
    obtain ⟨kb2, hf⟩ := ig hf
    obtain ⟨v2, h2, e2, hf⟩ := ob2 hf
    refine r_callV C hw (mX1_entryAt e2) kXX1_entryAt ck1 rfl kb2 w394 w395 w396 ⟨Nat.le_of_ble_eq_true rfl, Nat.le_of_ble_eq_true rfl⟩ rfl hl.1 (rest := [.int x4, .ref x3]) rfl (Nat.le_of_ble_eq_true rfl) dX1_entriesBehind_39 rfl rfl ⟨by show _ + 0 ≤ 1; omega, by show _ + 0 ≤ 4; omega⟩ (fun H locs hw => ?_)
    cases v2 with
    | none =>
      have hf := on_n hf
      refine W.eq (g2 := F0 m 42 ls [.null, .int x4, .ref x3]) rfl ?_
      obtain ⟨h5, e5, hf⟩ := ob hf
      refine r_aastN C hw e5 (by decide) rfl dX1_entriesBehind_42 (fun H locs hw => ?_)
      refine lv_iinc (v := (x4 + (1 : Int32))) (lv' := [(4, .int (x4 + (1 : Int32))), (0, .ref x0), (1, .int x1), (2, .int x2), (3, .ref x3)]) hx hb dX1_entriesBehind_43 hl (k := 4) rfl rfl (by decide) rfl (fun ls hl => ?_)
      refine lv_goto (tgt := 23) hx hb dX1_entriesBehind_46 (by decide) ?_
      exact hk23 _ _ _ _ _ _ _ hf _ _ _ _ _ (by omega) (by omega) hw (lv_sub hl [1, 2, 3, 4, 0] rfl)
    | some a3 =>
      have hf := on_s hf
      refine W.eq (g2 := F0 m 42 ls [.ref a3, .int x4, .ref x3]) rfl ?_
      obtain ⟨h4, e4, hf⟩ := ob hf
      refine r_aast C hw e4 (by decide) ck2 rfl dX1_entriesBehind_42 (fun H locs hw => ?_)
      refine lv_iinc (v := (x4 + (1 : Int32))) (lv' := [(4, .int (x4 + (1 : Int32))), (0, .ref x0), (1, .int x1), (2, .int x2), (3, .ref x3)]) hx hb dX1_entriesBehind_43 hl (k := 4) rfl rfl (by decide) rfl (fun ls hl => ?_)
      refine lv_goto (tgt := 23) hx hb dX1_entriesBehind_46 (by decide) ?_
      exact hk23 _ _ _ _ _ _ _ hf _ _ _ _ _ (by omega) (by omega) hw (lv_sub hl [1, 2, 3, 4, 0] rfl)
set_option maxRecDepth 100000 in
set_option maxHeartbeats 4000000 in
theorem bX1_entriesBehind_23 {D : va_G} {cy : Nat → ClassId} {s0 : Nat} {p : Program} {l : Launch} {e : Env} {s : State} {m : MethodId} {args : Array Value} {below : List Frame} {meth : Method} {c : Code} (C : CX D cy s0 p s m args meth c cX1_entriesBehind 5 RX1 (some (.array (.object "RaftRegistry$Entry")))) (hn : meth.name = "entriesBehind") : ∀ (n : Nat) (x0 : Nat) (x1 : Int32) (x2 : Int32) (x3 : Nat) (x4 : Int32) (h : Hp) (r : Option Nat × Hp), fX1_entriesBehind_23 n x0 x1 x2 x3 x4 h = some r → pX1_entriesBehind_23 D cy s0 p l e s m args below meth c r x0 x1 x2 x3 x4 h := by
  intro n
  induction n with
  | zero => intro x0 x1 x2 x3 x4 h r hf; exact absurd hf (fun q => by cases q)
  | succ n ih => exact bX1_entriesBehind_23_body C hn ih
abbrev pX1_entriesBehind (D : va_G) (cy : Nat → ClassId) (s0 : Nat) (p : Program) (l : Launch) (e : Env) (s : State) (m : MethodId) (args : Array Value) (below : List Frame) (meth : Method) (c : Code) (r : Option Nat × Hp) (x0 : Nat) (x1 : Int32) (h : Hp) : Prop := ∀ (H : Heap) (locs : List Loc) (ls : Array Slot) (cells slots : Nat), cells + (1) ≤ 1 → slots + (4) ≤ 4 → WS D cy s0 s h H locs → lv_has ls 5 [(0, .ref x0), (1, .int x1)] → W p l e rX1_entriesBehind s m args below meth c H locs cells slots (MQ below (QQ D cy s0 (some (va_rf r.1)) r.2) args s 1 4 (fun q => s0 ≤ q)) (F0 m 0 ls [])
set_option maxRecDepth 100000 in
set_option maxHeartbeats 4000000 in
theorem bX1_entriesBehind {D : va_G} {cy : Nat → ClassId} {s0 : Nat} {p : Program} {l : Launch} {e : Env} {s : State} {m : MethodId} {args : Array Value} {below : List Frame} {meth : Method} {c : Code} (C : CX D cy s0 p s m args meth c cX1_entriesBehind 5 RX1 (some (.array (.object "RaftRegistry$Entry")))) (hn : meth.name = "entriesBehind") : ∀ (x0 : Nat) (x1 : Int32) (h : Hp) (r : Option Nat × Hp), fX1_entriesBehind x0 x1 h = some r → pX1_entriesBehind D cy s0 p l e s m args below meth c r x0 x1 h := by
  intro x0 x1 h ⟨rv, rh⟩ hf H locs ls cells slots hc hs hw hl
  unfold fX1_entriesBehind at hf
  have hx := C.1
  have hb := C.2.1
  refine lv_iconst (v := (0 : Int32)) hx hb dX1_entriesBehind_0 (by decide) ?_
  refine lv_iconst (v := (4 : Int32)) hx hb dX1_entriesBehind_1 (by decide) ?_
  refine lv_aload_n hx hb dX1_entriesBehind_2 rfl (lv_at hl 0 rfl) ?_
  obtain ⟨v1, e1, hf⟩ := ob hf
  refine r_gI C hw e1 ck1 rfl (by decide) w167 dX1_entriesBehind_3 ?_
  refine lv_iload_n hx hb dX1_entriesBehind_6 rfl (lv_at hl 1 rfl) ?_
  refine lv_isub hx hb dX1_entriesBehind_7 ?_
  refine va_mmin hx hb (by rw [C.2.2.1]; exact hl.1.symm) C.2.2.2.1 (C.2.2.2.2.1 _ w565) (C.2.2.2.2.1 _ w566) (C.2.2.2.2.1 _ w18) (C.2.2.2.2.1 _ w567) (Nat.le_of_ble_eq_true rfl) (Nat.le_of_ble_eq_true rfl) (by show _ ≤ 1; omega) (by show _ ≤ 4; omega) dX1_entriesBehind_8 ?_
  refine W.eq (g2 := F0 m 11 ls [.int (mn (4 : Int32) (v1 - x1)), .int (0 : Int32)]) rfl ?_
  refine va_mmax hx hb (by rw [C.2.2.1]; exact hl.1.symm) C.2.2.2.1 (C.2.2.2.2.1 _ w568) (C.2.2.2.2.1 _ w569) (C.2.2.2.2.1 _ w18) (C.2.2.2.2.1 _ w570) (Nat.le_of_ble_eq_true rfl) (Nat.le_of_ble_eq_true rfl) (by show _ ≤ 1; omega) (by show _ ≤ 4; omega) dX1_entriesBehind_11 ?_
  refine W.eq (g2 := F0 m 14 ls [.int (mx (0 : Int32) (mn (4 : Int32) (v1 - x1)))]) rfl ?_
  refine lv_istore_n (lv' := [(2, .int (mx (0 : Int32) (mn (4 : Int32) (v1 - x1)))), (0, .ref x0), (1, .int x1)]) hx hb dX1_entriesBehind_14 rfl hl (by decide) rfl (fun ls hl => ?_)
  refine lv_iload_n hx hb dX1_entriesBehind_15 rfl (lv_at hl 0 rfl) ?_
  obtain ⟨h2, e2, hf⟩ := ob hf
  refine r_newQ C hw e2 (by decide) rfl w161 C.2.2.2.2.2.2.1.2.1 (by show _ + 1 ≤ 1; omega) (by show _ + 4 ≤ 4; omega) (by decide) dX1_entriesBehind_16 (fun H hw => ?_)
  refine lv_astore_n (lv' := [(3, .ref (hZ h)), (2, .int (mx (0 : Int32) (mn (4 : Int32) (v1 - x1)))), (0, .ref x0), (1, .int x1)]) hx hb dX1_entriesBehind_19 rfl hl (by decide) rfl (fun ls hl => ?_)
  refine lv_iconst (v := (0 : Int32)) hx hb dX1_entriesBehind_20 (by decide) ?_
  refine lv_istore (lv' := [(4, .int (0 : Int32)), (3, .ref (hZ h)), (2, .int (mx (0 : Int32) (mn (4 : Int32) (v1 - x1)))), (0, .ref x0), (1, .int x1)]) hx hb dX1_entriesBehind_21 hl (by decide) rfl (fun ls hl => ?_)
  exact bX1_entriesBehind_23 C hn LF _ _ _ _ _ _ _ hf _ _ _ _ _ (by omega) (by omega) hw (lv_sub hl [3, 4, 2, 1, 0] rfl)
theorem kXX1_entriesBehind : MK yX1_entriesBehind cX1_entriesBehind 5 (some (.array (.object "RaftRegistry$Entry"))) 1 := ⟨w564, w7, by decide +kernel⟩
theorem mX1_entriesBehind {D : va_G} {cy : Nat → ClassId} {s0 : Nat} {l : Launch} {x0 : Nat} {x1 : Int32} {h : Hp} {v : Option Nat} {h1 : Hp} (hf : fX1_entriesBehind x0 x1 h = some (v, h1)) : MT D cy s0 l yX1_entriesBehind cX1_entriesBehind 5 (some (.array (.object "RaftRegistry$Entry"))) rX1_entriesBehind [.ref x0, .int x1] h (some (va_rf v)) h1 := by
  refine MT.of (by decide +kernel) (Nat.le_of_ble_eq_true rfl) ?_
  intro p e s m below meth c H locs ls C hn hw hl
  exact bX1_entriesBehind C hn _ _ _ _ hf _ _ _ _ _ (Nat.le_of_ble_eq_true rfl) (Nat.le_of_ble_eq_true rfl) hw hl
abbrev rX1_powerFails : Room := { frames := 0, cells := 0, slots := 0, locals := 0 }
abbrev pX1_powerFails (D : va_G) (cy : Nat → ClassId) (s0 : Nat) (p : Program) (l : Launch) (e : Env) (s : State) (m : MethodId) (args : Array Value) (below : List Frame) (meth : Method) (c : Code) (r : Int32 × Hp) (x0 : Nat) (h : Hp) : Prop := ∀ (H : Heap) (locs : List Loc) (ls : Array Slot) (cells slots : Nat), cells + (0) ≤ 0 → slots + (0) ≤ 0 → WS D cy s0 s h H locs → lv_has ls 1 [(0, .ref x0)] → W p l e rX1_powerFails s m args below meth c H locs cells slots (MQ below (QQ D cy s0 (some (.int r.1)) r.2) args s 0 0 (fun q => s0 ≤ q)) (F0 m 0 ls [])
set_option maxRecDepth 100000 in
set_option maxHeartbeats 4000000 in
theorem bX1_powerFails {D : va_G} {cy : Nat → ClassId} {s0 : Nat} {p : Program} {l : Launch} {e : Env} {s : State} {m : MethodId} {args : Array Value} {below : List Frame} {meth : Method} {c : Code} (C : CX D cy s0 p s m args meth c cX1_powerFails 1 RX1 (some .boolean)) (hn : meth.name = "powerFails") : ∀ (x0 : Nat) (h : Hp) (r : Int32 × Hp), fX1_powerFails x0 h = some r → pX1_powerFails D cy s0 p l e s m args below meth c r x0 h := by
  intro x0 h ⟨rv, rh⟩ hf H locs ls cells slots hc hs hw hl
  unfold fX1_powerFails at hf
  have hx := C.1
  have hb := C.2.1
  refine lv_aload_n hx hb dX1_powerFails_0 rfl (lv_at hl 0 rfl) ?_
  obtain ⟨v1, e1, hf⟩ := ob hf
  refine r_gI C hw e1 ck1 rfl (by decide) w172 dX1_powerFails_1 ?_
  refine lv_if_ne (tgt := 9) hx hb dX1_powerFails_4 (by decide) (fun c2 => ?_) (fun c2 => ?_)
  · have hf := ie hf c2
    refine lv_aload_n hx hb dX1_powerFails_9 rfl (lv_at hl 0 rfl) ?_
    obtain ⟨v3, e3, hf⟩ := ob hf
    refine r_gI C hw e3 ck1 rfl (by decide) w172 dX1_powerFails_10 ?_
    refine lv_if_le (tgt := 26) hx hb dX1_powerFails_13 (by decide) (fun c4 => ?_) (fun c4 => ?_)
    · have hf := ip hf c4
      refine lv_iconst (v := (0 : Int32)) hx hb dX1_powerFails_26 (by decide) ?_
      cases hf
      exact r_iret C hw rfl (nz (Or.inl rfl)) (by omega) (by omega) dX1_powerFails_27
    · have hf := ie hf c4
      refine lv_aload_n hx hb dX1_powerFails_16 rfl (lv_at hl 0 rfl) ?_
      refine lv_dup hx hb dX1_powerFails_17 rfl ?_
      obtain ⟨v5, e5, hf⟩ := ob hf
      refine r_gI C hw e5 ck1 rfl (by decide) w172 dX1_powerFails_18 ?_
      refine lv_iconst (v := (1 : Int32)) hx hb dX1_powerFails_21 (by decide) ?_
      refine lv_isub hx hb dX1_powerFails_22 ?_
      obtain ⟨h6, e6, hf⟩ := ob hf
      refine r_pI C hw e6 ck1 rfl (by decide) rfl w172 (Or.inl rfl) dX1_powerFails_23 (fun H locs hw => ?_)
      refine lv_iconst (v := (0 : Int32)) hx hb dX1_powerFails_26 (by decide) ?_
      cases hf
      exact r_iret C hw rfl (nz (Or.inl rfl)) (by omega) (by omega) dX1_powerFails_27
  · have hf := ip hf c2
    refine lv_iconst (v := (1 : Int32)) hx hb dX1_powerFails_7 (by decide) ?_
    cases hf
    exact r_iret C hw rfl (nz (Or.inr rfl)) (by omega) (by omega) dX1_powerFails_8
theorem kXX1_powerFails : MK yX1_powerFails cX1_powerFails 1 (some .boolean) 0 := ⟨w381, w7, by decide +kernel⟩
theorem mX1_powerFails {D : va_G} {cy : Nat → ClassId} {s0 : Nat} {l : Launch} {x0 : Nat} {h : Hp} {v : Int32} {h1 : Hp} (hf : fX1_powerFails x0 h = some (v, h1)) : MT D cy s0 l yX1_powerFails cX1_powerFails 1 (some .boolean) rX1_powerFails [.ref x0] h (some (.int v)) h1 := by
  refine MT.of (by decide +kernel) (Nat.le_of_ble_eq_true rfl) ?_
  intro p e s m below meth c H locs ls C hn hw hl
  exact bX1_powerFails C hn _ _ _ hf _ _ _ _ _ (Nat.le_of_ble_eq_true rfl) (Nat.le_of_ble_eq_true rfl) hw hl
abbrev rX1_termAt : Room := { frames := 1, cells := 0, slots := 0, locals := 21 }
abbrev pX1_termAt (D : va_G) (cy : Nat → ClassId) (s0 : Nat) (p : Program) (l : Launch) (e : Env) (s : State) (m : MethodId) (args : Array Value) (below : List Frame) (meth : Method) (c : Code) (r : Int32 × Hp) (x0 : Nat) (x1 : Int32) (h : Hp) : Prop := ∀ (H : Heap) (locs : List Loc) (ls : Array Slot) (cells slots : Nat), cells + (0) ≤ 0 → slots + (0) ≤ 0 → WS D cy s0 s h H locs → lv_has ls 3 [(0, .ref x0), (1, .int x1)] → W p l e rX1_termAt s m args below meth c H locs cells slots (MQ below (QQ D cy s0 (some (.int r.1)) r.2) args s 0 0 (fun q => s0 ≤ q)) (F0 m 0 ls [])
set_option maxRecDepth 100000 in
set_option maxHeartbeats 4000000 in
theorem bX1_termAt {D : va_G} {cy : Nat → ClassId} {s0 : Nat} {p : Program} {l : Launch} {e : Env} {s : State} {m : MethodId} {args : Array Value} {below : List Frame} {meth : Method} {c : Code} (C : CX D cy s0 p s m args meth c cX1_termAt 3 RX1 (some .int)) (hn : meth.name = "termAt") : ∀ (x0 : Nat) (x1 : Int32) (h : Hp) (r : Int32 × Hp), fX1_termAt x0 x1 h = some r → pX1_termAt D cy s0 p l e s m args below meth c r x0 x1 h := by
  intro x0 x1 h ⟨rv, rh⟩ hf H locs ls cells slots hc hs hw hl
  unfold fX1_termAt at hf
  have hx := C.1
  have hb := C.2.1
  refine lv_iload_n hx hb dX1_termAt_0 rfl (lv_at hl 1 rfl) ?_
  refine lv_aload_n hx hb dX1_termAt_1 rfl (lv_at hl 0 rfl) ?_
  obtain ⟨v1, e1, hf⟩ := ob hf
  refine r_gR C hw e1 ck1 rfl (by decide) w169 dX1_termAt_2 ?_
  cases v1 with
  | none =>
    have hf := on_n hf
    cases hf
  | some a2 =>
    have hf := on_s hf
    refine W.eq (g2 := F0 m 5 ls [.ref a2, .int x1]) rfl ?_
    obtain ⟨v3, e3, hf⟩ := ob hf
    refine r_gI C hw e3 ck6 rfl (by decide) w133 dX1_termAt_5 ?_
    refine lv_icmp_ne (tgt := 19) hx hb dX1_termAt_8 (by decide) (fun c4 => ?_) (fun c4 => ?_)
    · have hf := ie hf c4
      refine lv_aload_n hx hb dX1_termAt_19 rfl (lv_at hl 0 rfl) ?_
      refine lv_iload_n hx hb dX1_termAt_20 rfl (lv_at hl 1 rfl) ?_
      obtain ⟨kb5, hf⟩ := ig hf
      obtain ⟨v5, h5, e5, hf⟩ := ob2 hf
      refine r_callV C hw (mX1_entryAt e5) kXX1_entryAt ck1 rfl kb5 w394 w395 w396 ⟨Nat.le_of_ble_eq_true rfl, Nat.le_of_ble_eq_true rfl⟩ rfl hl.1 (rest := []) rfl (Nat.le_of_ble_eq_true rfl) dX1_termAt_21 rfl rfl ⟨by show _ + 0 ≤ 0; omega, by show _ + 0 ≤ 0; omega⟩ (fun H locs hw => ?_)
      cases v5 with
      | none =>
        have hf := on_n hf
        refine W.eq (g2 := F0 m 24 ls [.null]) rfl ?_
        refine lv_astore_nN (lv' := [(2, .null), (0, .ref x0), (1, .int x1)]) hx hb dX1_termAt_24 rfl hl (by decide) rfl (fun ls hl => ?_)
        refine lv_aload_nN hx hb dX1_termAt_25 rfl (lv_at hl 0 rfl) ?_
        refine lv_ifnonnullN hx hb dX1_termAt_26 ?_
        refine lv_iconst (v := (-1 : Int32)) hx hb dX1_termAt_29 (by decide) ?_
        refine lv_goto (tgt := 37) hx hb dX1_termAt_30 (by decide) ?_
        cases hf
        exact r_iret C hw rfl rfl (by omega) (by omega) dX1_termAt_37
      | some a6 =>
        have hf := on_s hf
        refine W.eq (g2 := F0 m 24 ls [.ref a6]) rfl ?_
        refine lv_astore_n (lv' := [(2, .ref a6), (0, .ref x0), (1, .int x1)]) hx hb dX1_termAt_24 rfl hl (by decide) rfl (fun ls hl => ?_)
        refine lv_aload_n hx hb dX1_termAt_25 rfl (lv_at hl 0 rfl) ?_
        refine lv_ifnonnull (tgt := 33) hx hb dX1_termAt_26 (by decide) ?_
        refine lv_aload_n hx hb dX1_termAt_33 rfl (lv_at hl 0 rfl) ?_
        obtain ⟨v7, e7, hf⟩ := ob hf
        refine r_gI C hw e7 ck2 rfl (by decide) w540 dX1_termAt_34 ?_
        cases hf
        exact r_iret C hw rfl rfl (by omega) (by omega) dX1_termAt_37
    · have hf := ip hf c4
      refine lv_aload_n hx hb dX1_termAt_11 rfl (lv_at hl 0 rfl) ?_
      obtain ⟨v8, e8, hf⟩ := ob hf
      refine r_gR C hw e8 ck1 rfl (by decide) w169 dX1_termAt_12 ?_
      cases v8 with
      | none =>
        have hf := on_n hf
        cases hf
      | some a9 =>
        have hf := on_s hf
        refine W.eq (g2 := F0 m 15 ls [.ref a9]) rfl ?_
        obtain ⟨v10, e10, hf⟩ := ob hf
        refine r_gI C hw e10 ck6 rfl (by decide) w137 dX1_termAt_15 ?_
        cases hf
        exact r_iret C hw rfl rfl (by omega) (by omega) dX1_termAt_18
theorem kXX1_termAt : MK yX1_termAt cX1_termAt 3 (some .int) 1 := ⟨w393, w7, by decide +kernel⟩
theorem mX1_termAt {D : va_G} {cy : Nat → ClassId} {s0 : Nat} {l : Launch} {x0 : Nat} {x1 : Int32} {h : Hp} {v : Int32} {h1 : Hp} (hf : fX1_termAt x0 x1 h = some (v, h1)) : MT D cy s0 l yX1_termAt cX1_termAt 3 (some .int) rX1_termAt [.ref x0, .int x1] h (some (.int v)) h1 := by
  refine MT.of (by decide +kernel) (Nat.le_of_ble_eq_true rfl) ?_
  intro p e s m below meth c H locs ls C hn hw hl
  exact bX1_termAt C hn _ _ _ _ hf _ _ _ _ _ (Nat.le_of_ble_eq_true rfl) (Nat.le_of_ble_eq_true rfl) hw hl
abbrev rX1_recordVote : Room := { frames := 1, cells := 0, slots := 0, locals := 20 }
abbrev pX1_recordVote (D : va_G) (cy : Nat → ClassId) (s0 : Nat) (p : Program) (l : Launch) (e : Env) (s : State) (m : MethodId) (args : Array Value) (below : List Frame) (meth : Method) (c : Code) (r : Int32 × Hp) (x0 : Nat) (x1 : Int32) (x2 : Int32) (h : Hp) : Prop := ∀ (H : Heap) (locs : List Loc) (ls : Array Slot) (cells slots : Nat), cells + (0) ≤ 0 → slots + (0) ≤ 0 → WS D cy s0 s h H locs → lv_has ls 3 [(0, .ref x0), (1, .int x1), (2, .int x2)] → W p l e rX1_recordVote s m args below meth c H locs cells slots (MQ below (QQ D cy s0 (some (.int r.1)) r.2) args s 0 0 (fun q => s0 ≤ q)) (F0 m 0 ls [])
set_option maxRecDepth 100000 in
set_option maxHeartbeats 4000000 in
theorem bX1_recordVote {D : va_G} {cy : Nat → ClassId} {s0 : Nat} {p : Program} {l : Launch} {e : Env} {s : State} {m : MethodId} {args : Array Value} {below : List Frame} {meth : Method} {c : Code} (C : CX D cy s0 p s m args meth c cX1_recordVote 3 RX1 (some .boolean)) (hn : meth.name = "recordVote") : ∀ (x0 : Nat) (x1 : Int32) (x2 : Int32) (h : Hp) (r : Int32 × Hp), fX1_recordVote x0 x1 x2 h = some r → pX1_recordVote D cy s0 p l e s m args below meth c r x0 x1 x2 h := by
  intro x0 x1 x2 h ⟨rv, rh⟩ hf H locs ls cells slots hc hs hw hl
  unfold fX1_recordVote at hf
  have hx := C.1
  have hb := C.2.1
  refine lv_aload_n hx hb dX1_recordVote_0 rfl (lv_at hl 0 rfl) ?_
  obtain ⟨kb1, hf⟩ := ig hf
  obtain ⟨v1, h1, e1, hf⟩ := ob2 hf
  refine r_callV C hw (mX1_powerFails e1) kXX1_powerFails ck1 rfl kb1 w378 w380 v2 ⟨Nat.le_of_ble_eq_true rfl, Nat.le_of_ble_eq_true rfl⟩ rfl hl.1 (rest := []) rfl (Nat.le_of_ble_eq_true rfl) dX1_recordVote_1 rfl rfl ⟨by show _ + 0 ≤ 0; omega, by show _ + 0 ≤ 0; omega⟩ (fun H locs hw => ?_)
  refine W.eq (g2 := F0 m 4 ls [.int v1]) rfl ?_
  refine lv_if_eq (tgt := 9) hx hb dX1_recordVote_4 (by decide) (fun c2 => ?_) (fun c2 => ?_)
  · have hf := ip hf c2
    refine lv_aload_n hx hb dX1_recordVote_9 rfl (lv_at hl 0 rfl) ?_
    refine lv_iload_n hx hb dX1_recordVote_10 rfl (lv_at hl 1 rfl) ?_
    obtain ⟨h3, e3, hf⟩ := ob hf
    refine r_pI C hw e3 ck1 rfl (by decide) rfl w163 (Or.inl rfl) dX1_recordVote_11 (fun H locs hw => ?_)
    refine lv_aload_n hx hb dX1_recordVote_14 rfl (lv_at hl 0 rfl) ?_
    refine lv_iload_n hx hb dX1_recordVote_15 rfl (lv_at hl 2 rfl) ?_
    obtain ⟨h4, e4, hf⟩ := ob hf
    refine r_pI C hw e4 ck1 rfl (by decide) rfl w164 (Or.inl rfl) dX1_recordVote_16 (fun H locs hw => ?_)
    refine lv_iconst (v := (1 : Int32)) hx hb dX1_recordVote_19 (by decide) ?_
    cases hf
    exact r_iret C hw rfl (nz (Or.inr rfl)) (by omega) (by omega) dX1_recordVote_20
  · have hf := ie hf c2
    refine lv_iconst (v := (0 : Int32)) hx hb dX1_recordVote_7 (by decide) ?_
    cases hf
    exact r_iret C hw rfl (nz (Or.inl rfl)) (by omega) (by omega) dX1_recordVote_8
theorem kXX1_recordVote : MK yX1_recordVote cX1_recordVote 3 (some .boolean) 2 := ⟨w377, w7, by decide +kernel⟩
theorem mX1_recordVote {D : va_G} {cy : Nat → ClassId} {s0 : Nat} {l : Launch} {x0 : Nat} {x1 : Int32} {x2 : Int32} {h : Hp} {v : Int32} {h1 : Hp} (hf : fX1_recordVote x0 x1 x2 h = some (v, h1)) : MT D cy s0 l yX1_recordVote cX1_recordVote 3 (some .boolean) rX1_recordVote [.ref x0, .int x1, .int x2] h (some (.int v)) h1 := by
  refine MT.of (by decide +kernel) (Nat.le_of_ble_eq_true rfl) ?_
  intro p e s m below meth c H locs ls C hn hw hl
  exact bX1_recordVote C hn _ _ _ _ _ hf _ _ _ _ _ (Nat.le_of_ble_eq_true rfl) (Nat.le_of_ble_eq_true rfl) hw hl
abbrev rX2_init : Room := { frames := 1, cells := 0, slots := 0, locals := 24 }
abbrev pX2_init (D : va_G) (cy : Nat → ClassId) (s0 : Nat) (p : Program) (l : Launch) (e : Env) (s : State) (m : MethodId) (args : Array Value) (below : List Frame) (meth : Method) (c : Code) (r : Unit × Hp) (x0 : Nat) (x1 : Int32) (x2 : Nat) (h : Hp) : Prop := ∀ (H : Heap) (locs : List Loc) (ls : Array Slot) (cells slots : Nat), cells + (0) ≤ 0 → slots + (0) ≤ 0 → WS D cy s0 s h H locs → lv_has ls 3 [(0, .ref x0), (1, .int x1), (2, .ref x2)] → W p l e rX2_init s m args below meth c H locs cells slots (MQ below (QQ D cy s0 none r.2) args s 0 0 (fun q => s0 ≤ q)) (F0 m 0 ls [])
set_option maxRecDepth 100000 in
set_option maxHeartbeats 4000000 in
theorem bX2_init {D : va_G} {cy : Nat → ClassId} {s0 : Nat} {p : Program} {l : Launch} {e : Env} {s : State} {m : MethodId} {args : Array Value} {below : List Frame} {meth : Method} {c : Code} (C : CX D cy s0 p s m args meth c cX2_init 3 RX2 none) (hn : meth.name = "<init>") : ∀ (x0 : Nat) (x1 : Int32) (x2 : Nat) (h : Hp) (r : Unit × Hp), fX2_init x0 x1 x2 h = some r → pX2_init D cy s0 p l e s m args below meth c r x0 x1 x2 h := by
  intro x0 x1 x2 h ⟨rv, rh⟩ hf H locs ls cells slots hc hs hw hl
  unfold fX2_init at hf
  have hx := C.1
  have hb := C.2.1
  refine lv_aload_n hx hb dX2_init_0 rfl (lv_at hl 0 rfl) ?_
  refine W.objInit hx hb C.2.2.2.1 (C.2.2.2.2.1 _ w538) (C.2.2.2.2.1 _ w28) (C.2.2.2.2.1 _ w29) rfl (by rw [C.2.2.1]; exact hl.1) rfl dX2_init_1 (Nat.le_of_ble_eq_true rfl) (Nat.le_of_ble_eq_true rfl) ?_
  refine W.eq (g2 := F0 m 4 ls []) rfl ?_
  refine lv_aload_n hx hb dX2_init_4 rfl (lv_at hl 0 rfl) ?_
  refine lv_iload_n hx hb dX2_init_5 rfl (lv_at hl 1 rfl) ?_
  obtain ⟨h1, e1, hf⟩ := ob hf
  refine r_pI C hw e1 ck2 rfl (by decide) rfl w539 (Or.inr ⟨rfl, hn, rfl⟩) dX2_init_6 (fun H locs hw => ?_)
  refine lv_aload_n hx hb dX2_init_9 rfl (lv_at hl 0 rfl) ?_
  refine lv_aload_n hx hb dX2_init_10 rfl (lv_at hl 2 rfl) ?_
  obtain ⟨h2, e2, hf⟩ := ob hf
  refine r_pR C hw e2 rfl ck2 rfl (by decide) rfl rfl w542 (Or.inr ⟨rfl, hn, rfl⟩) dX2_init_11 (fun H locs hw => ?_)
  cases hf
  exact r_vret C hw rfl (by omega) (by omega) dX2_init_14
theorem kXX2_init : MK yX2_init cX2_init 3 none 2 := ⟨w537, w17, by decide +kernel⟩
theorem mX2_init {D : va_G} {cy : Nat → ClassId} {s0 : Nat} {l : Launch} {x0 : Nat} {x1 : Int32} {x2 : Nat} {h : Hp} {v : Unit} {h1 : Hp} (hf : fX2_init x0 x1 x2 h = some (v, h1)) : MT D cy s0 l yX2_init cX2_init 3 none rX2_init [.ref x0, .int x1, .ref x2] h none h1 := by
  refine MT.of (by decide +kernel) (Nat.le_of_ble_eq_true rfl) ?_
  intro p e s m below meth c H locs ls C hn hw hl
  exact bX2_init C hn _ _ _ _ _ hf _ _ _ _ _ (Nat.le_of_ble_eq_true rfl) (Nat.le_of_ble_eq_true rfl) hw hl
