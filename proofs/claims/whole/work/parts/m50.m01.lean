abbrev rJ6_bitCount_0f7a4 : Room := { frames := 0, cells := 0, slots := 0, locals := 0 }
abbrev pJ6_bitCount_0f7a4 (D : va_G) (cy : Nat → ClassId) (s0 : Nat) (p : Program) (l : Launch) (e : Env) (s : State) (m : MethodId) (args : Array Value) (below : List Frame) (meth : Method) (c : Code) (r : Int32 × Hp) (x0 : Int32) (h : Hp) : Prop := ∀ (H : Heap) (locs : List Loc) (ls : Array Slot) (cells slots : Nat), cells + (0) ≤ 0 → slots + (0) ≤ 0 → WS D cy s0 s h H locs → lv_has ls 1 [(0, .int x0)] → W p l e rJ6_bitCount_0f7a4 s m args below meth c H locs cells slots (MQ below (QQ D cy s0 (some (.int r.1)) r.2) args s 0 0 (fun q => s0 ≤ q)) (F0 m 0 ls [])
set_option maxRecDepth 100000 in
set_option maxHeartbeats 4000000 in
theorem bJ6_bitCount_0f7a4 {D : va_G} {cy : Nat → ClassId} {s0 : Nat} {p : Program} {l : Launch} {e : Env} {s : State} {m : MethodId} {args : Array Value} {below : List Frame} {meth : Method} {c : Code} (C : CX D cy s0 p s m args meth c cJ6_bitCount_0f7a4 1 RJ6 (some .int)) (hn : meth.name = "bitCount") : ∀ (x0 : Int32) (h : Hp) (r : Int32 × Hp), fJ6_bitCount_0f7a4 x0 h = some r → pJ6_bitCount_0f7a4 D cy s0 p l e s m args below meth c r x0 h := by
  intro x0 h ⟨rv, rh⟩ hf H locs ls cells slots hc hs hw hl
  unfold fJ6_bitCount_0f7a4 at hf
  have hx := C.1
  have hb := C.2.1
  refine lv_iload_n hx hb dJ6_bitCount_0f7a4_0 rfl (lv_at hl 0 rfl) ?_
  refine lv_iload_n hx hb dJ6_bitCount_0f7a4_1 rfl (lv_at hl 0 rfl) ?_
  refine lv_iconst (v := (1 : Int32)) hx hb dJ6_bitCount_0f7a4_2 (by decide) ?_
  refine lv_iushr (v := (x0.toUInt32 >>> ((1 : Int32).toUInt32 &&& Int32.toUInt32 31)).toInt32) hx hb dJ6_bitCount_0f7a4_3 rfl ?_
  refine lv_ldcw (v := (1431655765 : Int32)) hx hb C.2.2.2.1 (C.2.2.2.2.1 _ w483) dJ6_bitCount_0f7a4_4 ?_
  refine lv_iand hx hb dJ6_bitCount_0f7a4_7 ?_
  refine lv_isub hx hb dJ6_bitCount_0f7a4_8 ?_
  refine lv_istore_n (lv' := [(0, .int (x0 - (((x0.toUInt32 >>> ((1 : Int32).toUInt32 &&& Int32.toUInt32 31)).toInt32) &&& (1431655765 : Int32))))]) hx hb dJ6_bitCount_0f7a4_9 rfl hl (by decide) rfl (fun ls hl => ?_)
  refine lv_iload_n hx hb dJ6_bitCount_0f7a4_10 rfl (lv_at hl 0 rfl) ?_
  refine lv_ldcw (v := (858993459 : Int32)) hx hb C.2.2.2.1 (C.2.2.2.2.1 _ w484) dJ6_bitCount_0f7a4_11 ?_
  refine lv_iand hx hb dJ6_bitCount_0f7a4_14 ?_
  refine lv_iload_n hx hb dJ6_bitCount_0f7a4_15 rfl (lv_at hl 0 rfl) ?_
  refine lv_iconst (v := (2 : Int32)) hx hb dJ6_bitCount_0f7a4_16 (by decide) ?_
  refine lv_iushr (v := ((x0 - (((x0.toUInt32 >>> ((1 : Int32).toUInt32 &&& Int32.toUInt32 31)).toInt32) &&& (1431655765 : Int32))).toUInt32 >>> ((2 : Int32).toUInt32 &&& Int32.toUInt32 31)).toInt32) hx hb dJ6_bitCount_0f7a4_17 rfl ?_
  refine lv_ldcw (v := (858993459 : Int32)) hx hb C.2.2.2.1 (C.2.2.2.2.1 _ w484) dJ6_bitCount_0f7a4_18 ?_
  refine lv_iand hx hb dJ6_bitCount_0f7a4_21 ?_
  refine lv_iadd hx hb dJ6_bitCount_0f7a4_22 ?_
  refine lv_istore_n (lv' := [(0, .int (((x0 - (((x0.toUInt32 >>> ((1 : Int32).toUInt32 &&& Int32.toUInt32 31)).toInt32) &&& (1431655765 : Int32))) &&& (858993459 : Int32)) + ((((x0 - (((x0.toUInt32 >>> ((1 : Int32).toUInt32 &&& Int32.toUInt32 31)).toInt32) &&& (1431655765 : Int32))).toUInt32 >>> ((2 : Int32).toUInt32 &&& Int32.toUInt32 31)).toInt32) &&& (858993459 : Int32))))]) hx hb dJ6_bitCount_0f7a4_23 rfl hl (by decide) rfl (fun ls hl => ?_)
  refine lv_iload_n hx hb dJ6_bitCount_0f7a4_24 rfl (lv_at hl 0 rfl) ?_
  refine lv_iload_n hx hb dJ6_bitCount_0f7a4_25 rfl (lv_at hl 0 rfl) ?_
  refine lv_iconst (v := (4 : Int32)) hx hb dJ6_bitCount_0f7a4_26 (by decide) ?_
  refine lv_iushr (v := ((((x0 - (((x0.toUInt32 >>> ((1 : Int32).toUInt32 &&& Int32.toUInt32 31)).toInt32) &&& (1431655765 : Int32))) &&& (858993459 : Int32)) + ((((x0 - (((x0.toUInt32 >>> ((1 : Int32).toUInt32 &&& Int32.toUInt32 31)).toInt32) &&& (1431655765 : Int32))).toUInt32 >>> ((2 : Int32).toUInt32 &&& Int32.toUInt32 31)).toInt32) &&& (858993459 : Int32))).toUInt32 >>> ((4 : Int32).toUInt32 &&& Int32.toUInt32 31)).toInt32) hx hb dJ6_bitCount_0f7a4_27 rfl ?_
  refine lv_iadd hx hb dJ6_bitCount_0f7a4_28 ?_
  refine lv_ldcw (v := (252645135 : Int32)) hx hb C.2.2.2.1 (C.2.2.2.2.1 _ w485) dJ6_bitCount_0f7a4_29 ?_
  refine lv_iand hx hb dJ6_bitCount_0f7a4_32 ?_
  refine lv_istore_n (lv' := [(0, .int (((((x0 - (((x0.toUInt32 >>> ((1 : Int32).toUInt32 &&& Int32.toUInt32 31)).toInt32) &&& (1431655765 : Int32))) &&& (858993459 : Int32)) + ((((x0 - (((x0.toUInt32 >>> ((1 : Int32).toUInt32 &&& Int32.toUInt32 31)).toInt32) &&& (1431655765 : Int32))).toUInt32 >>> ((2 : Int32).toUInt32 &&& Int32.toUInt32 31)).toInt32) &&& (858993459 : Int32))) + (((((x0 - (((x0.toUInt32 >>> ((1 : Int32).toUInt32 &&& Int32.toUInt32 31)).toInt32) &&& (1431655765 : Int32))) &&& (858993459 : Int32)) + ((((x0 - (((x0.toUInt32 >>> ((1 : Int32).toUInt32 &&& Int32.toUInt32 31)).toInt32) &&& (1431655765 : Int32))).toUInt32 >>> ((2 : Int32).toUInt32 &&& Int32.toUInt32 31)).toInt32) &&& (858993459 : Int32))).toUInt32 >>> ((4 : Int32).toUInt32 &&& Int32.toUInt32 31)).toInt32)) &&& (252645135 : Int32)))]) hx hb dJ6_bitCount_0f7a4_33 rfl hl (by decide) rfl (fun ls hl => ?_)
  refine lv_iload_n hx hb dJ6_bitCount_0f7a4_34 rfl (lv_at hl 0 rfl) ?_
  refine lv_iload_n hx hb dJ6_bitCount_0f7a4_35 rfl (lv_at hl 0 rfl) ?_
  refine lv_bipush (v := (8 : Int32)) hx hb dJ6_bitCount_0f7a4_36 (by decide) ?_
  refine lv_iushr (v := ((((((x0 - (((x0.toUInt32 >>> ((1 : Int32).toUInt32 &&& Int32.toUInt32 31)).toInt32) &&& (1431655765 : Int32))) &&& (858993459 : Int32)) + ((((x0 - (((x0.toUInt32 >>> ((1 : Int32).toUInt32 &&& Int32.toUInt32 31)).toInt32) &&& (1431655765 : Int32))).toUInt32 >>> ((2 : Int32).toUInt32 &&& Int32.toUInt32 31)).toInt32) &&& (858993459 : Int32))) + (((((x0 - (((x0.toUInt32 >>> ((1 : Int32).toUInt32 &&& Int32.toUInt32 31)).toInt32) &&& (1431655765 : Int32))) &&& (858993459 : Int32)) + ((((x0 - (((x0.toUInt32 >>> ((1 : Int32).toUInt32 &&& Int32.toUInt32 31)).toInt32) &&& (1431655765 : Int32))).toUInt32 >>> ((2 : Int32).toUInt32 &&& Int32.toUInt32 31)).toInt32) &&& (858993459 : Int32))).toUInt32 >>> ((4 : Int32).toUInt32 &&& Int32.toUInt32 31)).toInt32)) &&& (252645135 : Int32)).toUInt32 >>> ((8 : Int32).toUInt32 &&& Int32.toUInt32 31)).toInt32) hx hb dJ6_bitCount_0f7a4_38 rfl ?_
  refine lv_iadd hx hb dJ6_bitCount_0f7a4_39 ?_
  refine lv_istore_n (lv' := [(0, .int ((((((x0 - (((x0.toUInt32 >>> ((1 : Int32).toUInt32 &&& Int32.toUInt32 31)).toInt32) &&& (1431655765 : Int32))) &&& (858993459 : Int32)) + ((((x0 - (((x0.toUInt32 >>> ((1 : Int32).toUInt32 &&& Int32.toUInt32 31)).toInt32) &&& (1431655765 : Int32))).toUInt32 >>> ((2 : Int32).toUInt32 &&& Int32.toUInt32 31)).toInt32) &&& (858993459 : Int32))) + (((((x0 - (((x0.toUInt32 >>> ((1 : Int32).toUInt32 &&& Int32.toUInt32 31)).toInt32) &&& (1431655765 : Int32))) &&& (858993459 : Int32)) + ((((x0 - (((x0.toUInt32 >>> ((1 : Int32).toUInt32 &&& Int32.toUInt32 31)).toInt32) &&& (1431655765 : Int32))).toUInt32 >>> ((2 : Int32).toUInt32 &&& Int32.toUInt32 31)).toInt32) &&& (858993459 : Int32))).toUInt32 >>> ((4 : Int32).toUInt32 &&& Int32.toUInt32 31)).toInt32)) &&& (252645135 : Int32)) + (((((((x0 - (((x0.toUInt32 >>> ((1 : Int32).toUInt32 &&& Int32.toUInt32 31)).toInt32) &&& (1431655765 : Int32))) &&& (858993459 : Int32)) + ((((x0 - (((x0.toUInt32 >>> ((1 : Int32).toUInt32 &&& Int32.toUInt32 31)).toInt32) &&& (1431655765 : Int32))).toUInt32 >>> ((2 : Int32).toUInt32 &&& Int32.toUInt32 31)).toInt32) &&& (858993459 : Int32))) + (((((x0 - (((x0.toUInt32 >>> ((1 : Int32).toUInt32 &&& Int32.toUInt32 31)).toInt32) &&& (1431655765 : Int32))) &&& (858993459 : Int32)) + ((((x0 - (((x0.toUInt32 >>> ((1 : Int32).toUInt32 &&& Int32.toUInt32 31)).toInt32) &&& (1431655765 : Int32))).toUInt32 >>> ((2 : Int32).toUInt32 &&& Int32.toUInt32 31)).toInt32) &&& (858993459 : Int32))).toUInt32 >>> ((4 : Int32).toUInt32 &&& Int32.toUInt32 31)).toInt32)) &&& (252645135 : Int32)).toUInt32 >>> ((8 : Int32).toUInt32 &&& Int32.toUInt32 31)).toInt32)))]) hx hb dJ6_bitCount_0f7a4_40 rfl hl (by decide) rfl (fun ls hl => ?_)
  refine lv_iload_n hx hb dJ6_bitCount_0f7a4_41 rfl (lv_at hl 0 rfl) ?_
  refine lv_iload_n hx hb dJ6_bitCount_0f7a4_42 rfl (lv_at hl 0 rfl) ?_
  refine lv_bipush (v := (16 : Int32)) hx hb dJ6_bitCount_0f7a4_43 (by decide) ?_
  refine lv_iushr (v := (((((((x0 - (((x0.toUInt32 >>> ((1 : Int32).toUInt32 &&& Int32.toUInt32 31)).toInt32) &&& (1431655765 : Int32))) &&& (858993459 : Int32)) + ((((x0 - (((x0.toUInt32 >>> ((1 : Int32).toUInt32 &&& Int32.toUInt32 31)).toInt32) &&& (1431655765 : Int32))).toUInt32 >>> ((2 : Int32).toUInt32 &&& Int32.toUInt32 31)).toInt32) &&& (858993459 : Int32))) + (((((x0 - (((x0.toUInt32 >>> ((1 : Int32).toUInt32 &&& Int32.toUInt32 31)).toInt32) &&& (1431655765 : Int32))) &&& (858993459 : Int32)) + ((((x0 - (((x0.toUInt32 >>> ((1 : Int32).toUInt32 &&& Int32.toUInt32 31)).toInt32) &&& (1431655765 : Int32))).toUInt32 >>> ((2 : Int32).toUInt32 &&& Int32.toUInt32 31)).toInt32) &&& (858993459 : Int32))).toUInt32 >>> ((4 : Int32).toUInt32 &&& Int32.toUInt32 31)).toInt32)) &&& (252645135 : Int32)) + (((((((x0 - (((x0.toUInt32 >>> ((1 : Int32).toUInt32 &&& Int32.toUInt32 31)).toInt32) &&& (1431655765 : Int32))) &&& (858993459 : Int32)) + ((((x0 - (((x0.toUInt32 >>> ((1 : Int32).toUInt32 &&& Int32.toUInt32 31)).toInt32) &&& (1431655765 : Int32))).toUInt32 >>> ((2 : Int32).toUInt32 &&& Int32.toUInt32 31)).toInt32) &&& (858993459 : Int32))) + (((((x0 - (((x0.toUInt32 >>> ((1 : Int32).toUInt32 &&& Int32.toUInt32 31)).toInt32) &&& (1431655765 : Int32))) &&& (858993459 : Int32)) + ((((x0 - (((x0.toUInt32 >>> ((1 : Int32).toUInt32 &&& Int32.toUInt32 31)).toInt32) &&& (1431655765 : Int32))).toUInt32 >>> ((2 : Int32).toUInt32 &&& Int32.toUInt32 31)).toInt32) &&& (858993459 : Int32))).toUInt32 >>> ((4 : Int32).toUInt32 &&& Int32.toUInt32 31)).toInt32)) &&& (252645135 : Int32)).toUInt32 >>> ((8 : Int32).toUInt32 &&& Int32.toUInt32 31)).toInt32)).toUInt32 >>> ((16 : Int32).toUInt32 &&& Int32.toUInt32 31)).toInt32) hx hb dJ6_bitCount_0f7a4_45 rfl ?_
  refine lv_iadd hx hb dJ6_bitCount_0f7a4_46 ?_
  refine lv_istore_n (lv' := [(0, .int (((((((x0 - (((x0.toUInt32 >>> ((1 : Int32).toUInt32 &&& Int32.toUInt32 31)).toInt32) &&& (1431655765 : Int32))) &&& (858993459 : Int32)) + ((((x0 - (((x0.toUInt32 >>> ((1 : Int32).toUInt32 &&& Int32.toUInt32 31)).toInt32) &&& (1431655765 : Int32))).toUInt32 >>> ((2 : Int32).toUInt32 &&& Int32.toUInt32 31)).toInt32) &&& (858993459 : Int32))) + (((((x0 - (((x0.toUInt32 >>> ((1 : Int32).toUInt32 &&& Int32.toUInt32 31)).toInt32) &&& (1431655765 : Int32))) &&& (858993459 : Int32)) + ((((x0 - (((x0.toUInt32 >>> ((1 : Int32).toUInt32 &&& Int32.toUInt32 31)).toInt32) &&& (1431655765 : Int32))).toUInt32 >>> ((2 : Int32).toUInt32 &&& Int32.toUInt32 31)).toInt32) &&& (858993459 : Int32))).toUInt32 >>> ((4 : Int32).toUInt32 &&& Int32.toUInt32 31)).toInt32)) &&& (252645135 : Int32)) + (((((((x0 - (((x0.toUInt32 >>> ((1 : Int32).toUInt32 &&& Int32.toUInt32 31)).toInt32) &&& (1431655765 : Int32))) &&& (858993459 : Int32)) + ((((x0 - (((x0.toUInt32 >>> ((1 : Int32).toUInt32 &&& Int32.toUInt32 31)).toInt32) &&& (1431655765 : Int32))).toUInt32 >>> ((2 : Int32).toUInt32 &&& Int32.toUInt32 31)).toInt32) &&& (858993459 : Int32))) + (((((x0 - (((x0.toUInt32 >>> ((1 : Int32).toUInt32 &&& Int32.toUInt32 31)).toInt32) &&& (1431655765 : Int32))) &&& (858993459 : Int32)) + ((((x0 - (((x0.toUInt32 >>> ((1 : Int32).toUInt32 &&& Int32.toUInt32 31)).toInt32) &&& (1431655765 : Int32))).toUInt32 >>> ((2 : Int32).toUInt32 &&& Int32.toUInt32 31)).toInt32) &&& (858993459 : Int32))).toUInt32 >>> ((4 : Int32).toUInt32 &&& Int32.toUInt32 31)).toInt32)) &&& (252645135 : Int32)).toUInt32 >>> ((8 : Int32).toUInt32 &&& Int32.toUInt32 31)).toInt32)) + ((((((((x0 - (((x0.toUInt32 >>> ((1 : Int32).toUInt32 &&& Int32.toUInt32 31)).toInt32) &&& (1431655765 : Int32))) &&& (858993459 : Int32)) + ((((x0 - (((x0.toUInt32 >>> ((1 : Int32).toUInt32 &&& Int32.toUInt32 31)).toInt32) &&& (1431655765 : Int32))).toUInt32 >>> ((2 : Int32).toUInt32 &&& Int32.toUInt32 31)).toInt32) &&& (858993459 : Int32))) + (((((x0 - (((x0.toUInt32 >>> ((1 : Int32).toUInt32 &&& Int32.toUInt32 31)).toInt32) &&& (1431655765 : Int32))) &&& (858993459 : Int32)) + ((((x0 - (((x0.toUInt32 >>> ((1 : Int32).toUInt32 &&& Int32.toUInt32 31)).toInt32) &&& (1431655765 : Int32))).toUInt32 >>> ((2 : Int32).toUInt32 &&& Int32.toUInt32 31)).toInt32) &&& (858993459 : Int32))).toUInt32 >>> ((4 : Int32).toUInt32 &&& Int32.toUInt32 31)).toInt32)) &&& (252645135 : Int32)) + (((((((x0 - (((x0.toUInt32 >>> ((1 : Int32).toUInt32 &&& Int32.toUInt32 31)).toInt32) &&& (1431655765 : Int32))) &&& (858993459 : Int32)) + ((((x0 - (((x0.toUInt32 >>> ((1 : Int32).toUInt32 &&& Int32.toUInt32 31)).toInt32) &&& (1431655765 : Int32))).toUInt32 >>> ((2 : Int32).toUInt32 &&& Int32.toUInt32 31)).toInt32) &&& (858993459 : Int32))) + (((((x0 - (((x0.toUInt32 >>> ((1 : Int32).toUInt32 &&& Int32.toUInt32 31)).toInt32) &&& (1431655765 : Int32))) &&& (858993459 : Int32)) + ((((x0 - (((x0.toUInt32 >>> ((1 : Int32).toUInt32 &&& Int32.toUInt32 31)).toInt32) &&& (1431655765 : Int32))).toUInt32 >>> ((2 : Int32).toUInt32 &&& Int32.toUInt32 31)).toInt32) &&& (858993459 : Int32))).toUInt32 >>> ((4 : Int32).toUInt32 &&& Int32.toUInt32 31)).toInt32)) &&& (252645135 : Int32)).toUInt32 >>> ((8 : Int32).toUInt32 &&& Int32.toUInt32 31)).toInt32)).toUInt32 >>> ((16 : Int32).toUInt32 &&& Int32.toUInt32 31)).toInt32)))]) hx hb dJ6_bitCount_0f7a4_47 rfl hl (by decide) rfl (fun ls hl => ?_)
  refine lv_iload_n hx hb dJ6_bitCount_0f7a4_48 rfl (lv_at hl 0 rfl) ?_
  refine lv_bipush (v := (63 : Int32)) hx hb dJ6_bitCount_0f7a4_49 (by decide) ?_
  refine lv_iand hx hb dJ6_bitCount_0f7a4_51 ?_
  obtain ⟨rfl, rfl⟩ := sp hf
  exact r_iret C hw rfl rfl (by omega) (by omega) dJ6_bitCount_0f7a4_52
theorem kXJ6_bitCount_0f7a4 : MK yJ6_bitCount_0f7a4 cJ6_bitCount_0f7a4 1 (some .int) 1 := ⟨w482, w15, by decide +kernel⟩
theorem mJ6_bitCount_0f7a4 {D : va_G} {cy : Nat → ClassId} {s0 : Nat} {l : Launch} {x0 : Int32} {h : Hp} {v : Int32} {h1 : Hp} (hf : fJ6_bitCount_0f7a4 x0 h = some (v, h1)) : MT D cy s0 l yJ6_bitCount_0f7a4 cJ6_bitCount_0f7a4 1 (some .int) rJ6_bitCount_0f7a4 [.int x0] h (some (.int v)) h1 := by
  refine MT.of (by decide +kernel) (Nat.le_of_ble_eq_true rfl) ?_
  intro p e s m below meth c H locs ls C hn hw hl
  exact bJ6_bitCount_0f7a4 C hn _ _ _ hf _ _ _ _ _ (Nat.le_of_ble_eq_true rfl) (Nat.le_of_ble_eq_true rfl) hw hl
abbrev rX0_init : Room := { frames := 1, cells := 0, slots := 0, locals := 24 }
abbrev pX0_init (D : va_G) (cy : Nat → ClassId) (s0 : Nat) (p : Program) (l : Launch) (e : Env) (s : State) (m : MethodId) (args : Array Value) (below : List Frame) (meth : Method) (c : Code) (r : Unit × Hp) (x0 : Nat) (x1 : Int32) (x2 : Int32) (x3 : Int32) (x4 : Int32) (x5 : Int32) (x6 : Int32) (x7 : Int32) (h : Hp) : Prop := ∀ (H : Heap) (locs : List Loc) (ls : Array Slot) (cells slots : Nat), cells + (0) ≤ 0 → slots + (0) ≤ 0 → WS D cy s0 s h H locs → lv_has ls 8 [(0, .ref x0), (1, .int x1), (2, .int x2), (3, .int x3), (4, .int x4), (5, .int x5), (6, .int x6), (7, .int x7)] → W p l e rX0_init s m args below meth c H locs cells slots (MQ below (QQ D cy s0 none r.2) args s 0 0 (fun q => s0 ≤ q)) (F0 m 0 ls [])
set_option maxRecDepth 100000 in
set_option maxHeartbeats 4000000 in
theorem bX0_init {D : va_G} {cy : Nat → ClassId} {s0 : Nat} {p : Program} {l : Launch} {e : Env} {s : State} {m : MethodId} {args : Array Value} {below : List Frame} {meth : Method} {c : Code} (C : CX D cy s0 p s m args meth c cX0_init 8 RX0 none) (hn : meth.name = "<init>") : ∀ (x0 : Nat) (x1 : Int32) (x2 : Int32) (x3 : Int32) (x4 : Int32) (x5 : Int32) (x6 : Int32) (x7 : Int32) (h : Hp) (r : Unit × Hp), fX0_init x0 x1 x2 x3 x4 x5 x6 x7 h = some r → pX0_init D cy s0 p l e s m args below meth c r x0 x1 x2 x3 x4 x5 x6 x7 h := by
  intro x0 x1 x2 x3 x4 x5 x6 x7 h ⟨rv, rh⟩ hf H locs ls cells slots hc hs hw hl
  unfold fX0_init at hf
  have hx := C.1
  have hb := C.2.1
  refine lv_aload_n hx hb dX0_init_0 rfl (lv_at hl 0 rfl) ?_
  refine W.objInit hx hb C.2.2.2.1 (C.2.2.2.2.1 _ w499) (C.2.2.2.2.1 _ w28) (C.2.2.2.2.1 _ w29) rfl (by rw [C.2.2.1]; exact hl.1) rfl dX0_init_1 (Nat.le_of_ble_eq_true rfl) (Nat.le_of_ble_eq_true rfl) ?_
  refine W.eq (g2 := F0 m 4 ls []) rfl ?_
  refine lv_aload_n hx hb dX0_init_4 rfl (lv_at hl 0 rfl) ?_
  refine lv_iload_n hx hb dX0_init_5 rfl (lv_at hl 1 rfl) ?_
  obtain ⟨h1, e1, hf⟩ := ob hf
  refine r_pI C hw e1 ck0 rfl (by decide) rfl w500 (Or.inr ⟨rfl, hn, rfl⟩) dX0_init_6 (fun H locs hw => ?_)
  refine lv_aload_n hx hb dX0_init_9 rfl (lv_at hl 0 rfl) ?_
  refine lv_iload_n hx hb dX0_init_10 rfl (lv_at hl 2 rfl) ?_
  obtain ⟨h2, e2, hf⟩ := ob hf
  refine r_pI C hw e2 ck0 rfl (by decide) rfl w502 (Or.inr ⟨rfl, hn, rfl⟩) dX0_init_11 (fun H locs hw => ?_)
  refine lv_aload_n hx hb dX0_init_14 rfl (lv_at hl 0 rfl) ?_
  refine lv_iload_n hx hb dX0_init_15 rfl (lv_at hl 3 rfl) ?_
  obtain ⟨h3, e3, hf⟩ := ob hf
  refine r_pI C hw e3 ck0 rfl (by decide) rfl w504 (Or.inr ⟨rfl, hn, rfl⟩) dX0_init_16 (fun H locs hw => ?_)
  refine lv_aload_n hx hb dX0_init_19 rfl (lv_at hl 0 rfl) ?_
  refine lv_iload hx hb dX0_init_20 (lv_at hl 4 rfl) ?_
  obtain ⟨h4, e4, hf⟩ := ob hf
  refine r_pI C hw e4 ck0 rfl (by decide) rfl w506 (Or.inr ⟨rfl, hn, rfl⟩) dX0_init_22 (fun H locs hw => ?_)
  refine lv_aload_n hx hb dX0_init_25 rfl (lv_at hl 0 rfl) ?_
  refine lv_iload hx hb dX0_init_26 (lv_at hl 5 rfl) ?_
  obtain ⟨h5, e5, hf⟩ := ob hf
  refine r_pI C hw e5 ck0 rfl (by decide) rfl w508 (Or.inr ⟨rfl, hn, rfl⟩) dX0_init_28 (fun H locs hw => ?_)
  refine lv_aload_n hx hb dX0_init_31 rfl (lv_at hl 0 rfl) ?_
  refine lv_iload hx hb dX0_init_32 (lv_at hl 6 rfl) ?_
  obtain ⟨h6, e6, hf⟩ := ob hf
  refine r_pI C hw e6 ck0 rfl (by decide) rfl w510 (Or.inr ⟨rfl, hn, rfl⟩) dX0_init_34 (fun H locs hw => ?_)
  refine lv_aload_n hx hb dX0_init_37 rfl (lv_at hl 0 rfl) ?_
  refine lv_iload hx hb dX0_init_38 (lv_at hl 7 rfl) ?_
  obtain ⟨h7, e7, hf⟩ := ob hf
  refine r_pI C hw e7 ck0 rfl (by decide) rfl w512 (Or.inr ⟨rfl, hn, rfl⟩) dX0_init_40 (fun H locs hw => ?_)
  obtain ⟨rfl, rfl⟩ := sp hf
  exact r_vret C hw rfl (by omega) (by omega) dX0_init_43
theorem kXX0_init : MK yX0_init cX0_init 8 none 7 := ⟨w498, w16, by decide +kernel⟩
theorem mX0_init {D : va_G} {cy : Nat → ClassId} {s0 : Nat} {l : Launch} {x0 : Nat} {x1 : Int32} {x2 : Int32} {x3 : Int32} {x4 : Int32} {x5 : Int32} {x6 : Int32} {x7 : Int32} {h : Hp} {v : Unit} {h1 : Hp} (hf : fX0_init x0 x1 x2 x3 x4 x5 x6 x7 h = some (v, h1)) : MT D cy s0 l yX0_init cX0_init 8 none rX0_init [.ref x0, .int x1, .int x2, .int x3, .int x4, .int x5, .int x6, .int x7] h none h1 := by
  refine MT.of (by decide +kernel) (Nat.le_of_ble_eq_true rfl) ?_
  intro p e s m below meth c H locs ls C hn hw hl
  exact bX0_init C hn _ _ _ _ _ _ _ _ _ _ hf _ _ _ _ _ (Nat.le_of_ble_eq_true rfl) (Nat.le_of_ble_eq_true rfl) hw hl
abbrev rX9_isKey : Room := { frames := 0, cells := 0, slots := 0, locals := 0 }
abbrev pX9_isKey (D : va_G) (cy : Nat → ClassId) (s0 : Nat) (p : Program) (l : Launch) (e : Env) (s : State) (m : MethodId) (args : Array Value) (below : List Frame) (meth : Method) (c : Code) (r : Int32 × Hp) (x0 : Int32) (h : Hp) : Prop := ∀ (H : Heap) (locs : List Loc) (ls : Array Slot) (cells slots : Nat), cells + (0) ≤ 0 → slots + (0) ≤ 0 → WS D cy s0 s h H locs → lv_has ls 1 [(0, .int x0)] → W p l e rX9_isKey s m args below meth c H locs cells slots (MQ below (QQ D cy s0 (some (.int r.1)) r.2) args s 0 0 (fun q => s0 ≤ q)) (F0 m 0 ls [])
set_option maxRecDepth 100000 in
set_option maxHeartbeats 4000000 in
theorem bX9_isKey {D : va_G} {cy : Nat → ClassId} {s0 : Nat} {p : Program} {l : Launch} {e : Env} {s : State} {m : MethodId} {args : Array Value} {below : List Frame} {meth : Method} {c : Code} (C : CX D cy s0 p s m args meth c cX9_isKey 1 RX9 (some .boolean)) (hn : meth.name = "isKey") : ∀ (x0 : Int32) (h : Hp) (r : Int32 × Hp), fX9_isKey x0 h = some r → pX9_isKey D cy s0 p l e s m args below meth c r x0 h := by
  intro x0 h ⟨rv, rh⟩ hf H locs ls cells slots hc hs hw hl
  unfold fX9_isKey at hf
  have hx := C.1
  have hb := C.2.1
  refine lv_iload_n hx hb dX9_isKey_0 rfl (lv_at hl 0 rfl) ?_
  refine lv_if_lt (tgt := 14) hx hb dX9_isKey_1 (by decide) (fun c1 => ?_) (fun c1 => ?_)
  · have hf := ip hf c1
    refine lv_iconst (v := (0 : Int32)) hx hb dX9_isKey_14 (by decide) ?_
    obtain ⟨rfl, rfl⟩ := sp hf
    exact r_iret C hw rfl (nz (Or.inl rfl)) (by omega) (by omega) dX9_isKey_15
  · have hf := ie hf c1
    refine lv_iload_n hx hb dX9_isKey_4 rfl (lv_at hl 0 rfl) ?_
    refine lv_bipush (v := (64 : Int32)) hx hb dX9_isKey_5 (by decide) ?_
    refine lv_icmp_ge (tgt := 14) hx hb dX9_isKey_7 (by decide) (fun c2 => ?_) (fun c2 => ?_)
    · have hf := ip hf c2
      refine lv_iconst (v := (0 : Int32)) hx hb dX9_isKey_14 (by decide) ?_
      obtain ⟨rfl, rfl⟩ := sp hf
      exact r_iret C hw rfl (nz (Or.inl rfl)) (by omega) (by omega) dX9_isKey_15
    · have hf := ie hf c2
      refine lv_iconst (v := (1 : Int32)) hx hb dX9_isKey_10 (by decide) ?_
      refine lv_goto (tgt := 15) hx hb dX9_isKey_11 (by decide) ?_
      obtain ⟨rfl, rfl⟩ := sp hf
      exact r_iret C hw rfl (nz (Or.inr rfl)) (by omega) (by omega) dX9_isKey_15
theorem kXX9_isKey : MK yX9_isKey cX9_isKey 1 (some .boolean) 1 := ⟨w658, w1, by decide +kernel⟩
theorem mX9_isKey {D : va_G} {cy : Nat → ClassId} {s0 : Nat} {l : Launch} {x0 : Int32} {h : Hp} {v : Int32} {h1 : Hp} (hf : fX9_isKey x0 h = some (v, h1)) : MT D cy s0 l yX9_isKey cX9_isKey 1 (some .boolean) rX9_isKey [.int x0] h (some (.int v)) h1 := by
  refine MT.of (by decide +kernel) (Nat.le_of_ble_eq_true rfl) ?_
  intro p e s m below meth c H locs ls C hn hw hl
  exact bX9_isKey C hn _ _ _ hf _ _ _ _ _ (Nat.le_of_ble_eq_true rfl) (Nat.le_of_ble_eq_true rfl) hw hl
abbrev rX9_isLease : Room := { frames := 0, cells := 0, slots := 0, locals := 0 }
abbrev pX9_isLease (D : va_G) (cy : Nat → ClassId) (s0 : Nat) (p : Program) (l : Launch) (e : Env) (s : State) (m : MethodId) (args : Array Value) (below : List Frame) (meth : Method) (c : Code) (r : Int32 × Hp) (x0 : Int32) (h : Hp) : Prop := ∀ (H : Heap) (locs : List Loc) (ls : Array Slot) (cells slots : Nat), cells + (0) ≤ 0 → slots + (0) ≤ 0 → WS D cy s0 s h H locs → lv_has ls 1 [(0, .int x0)] → W p l e rX9_isLease s m args below meth c H locs cells slots (MQ below (QQ D cy s0 (some (.int r.1)) r.2) args s 0 0 (fun q => s0 ≤ q)) (F0 m 0 ls [])
set_option maxRecDepth 100000 in
set_option maxHeartbeats 4000000 in
theorem bX9_isLease {D : va_G} {cy : Nat → ClassId} {s0 : Nat} {p : Program} {l : Launch} {e : Env} {s : State} {m : MethodId} {args : Array Value} {below : List Frame} {meth : Method} {c : Code} (C : CX D cy s0 p s m args meth c cX9_isLease 1 RX9 (some .boolean)) (hn : meth.name = "isLease") : ∀ (x0 : Int32) (h : Hp) (r : Int32 × Hp), fX9_isLease x0 h = some r → pX9_isLease D cy s0 p l e s m args below meth c r x0 h := by
  intro x0 h ⟨rv, rh⟩ hf H locs ls cells slots hc hs hw hl
  unfold fX9_isLease at hf
  have hx := C.1
  have hb := C.2.1
  refine lv_iload_n hx hb dX9_isLease_0 rfl (lv_at hl 0 rfl) ?_
  refine lv_iconst (v := (1 : Int32)) hx hb dX9_isLease_1 (by decide) ?_
  refine lv_icmp_lt (tgt := 15) hx hb dX9_isLease_2 (by decide) (fun c1 => ?_) (fun c1 => ?_)
  · have hf := ip hf c1
    refine lv_iconst (v := (0 : Int32)) hx hb dX9_isLease_15 (by decide) ?_
    obtain ⟨rfl, rfl⟩ := sp hf
    exact r_iret C hw rfl (nz (Or.inl rfl)) (by omega) (by omega) dX9_isLease_16
  · have hf := ie hf c1
    refine lv_iload_n hx hb dX9_isLease_5 rfl (lv_at hl 0 rfl) ?_
    refine lv_bipush (v := (8 : Int32)) hx hb dX9_isLease_6 (by decide) ?_
    refine lv_icmp_gt (tgt := 15) hx hb dX9_isLease_8 (by decide) (fun c2 => ?_) (fun c2 => ?_)
    · have hf := ip hf c2
      refine lv_iconst (v := (0 : Int32)) hx hb dX9_isLease_15 (by decide) ?_
      obtain ⟨rfl, rfl⟩ := sp hf
      exact r_iret C hw rfl (nz (Or.inl rfl)) (by omega) (by omega) dX9_isLease_16
    · have hf := ie hf c2
      refine lv_iconst (v := (1 : Int32)) hx hb dX9_isLease_11 (by decide) ?_
      refine lv_goto (tgt := 16) hx hb dX9_isLease_12 (by decide) ?_
      obtain ⟨rfl, rfl⟩ := sp hf
      exact r_iret C hw rfl (nz (Or.inr rfl)) (by omega) (by omega) dX9_isLease_16
theorem kXX9_isLease : MK yX9_isLease cX9_isLease 1 (some .boolean) 1 := ⟨w648, w1, by decide +kernel⟩
theorem mX9_isLease {D : va_G} {cy : Nat → ClassId} {s0 : Nat} {l : Launch} {x0 : Int32} {h : Hp} {v : Int32} {h1 : Hp} (hf : fX9_isLease x0 h = some (v, h1)) : MT D cy s0 l yX9_isLease cX9_isLease 1 (some .boolean) rX9_isLease [.int x0] h (some (.int v)) h1 := by
  refine MT.of (by decide +kernel) (Nat.le_of_ble_eq_true rfl) ?_
  intro p e s m below meth c H locs ls C hn hw hl
  exact bX9_isLease C hn _ _ _ hf _ _ _ _ _ (Nat.le_of_ble_eq_true rfl) (Nat.le_of_ble_eq_true rfl) hw hl
abbrev rX0_isLegal : Room := { frames := 1, cells := 0, slots := 0, locals := 20 }
abbrev pX0_isLegal_167 (D : va_G) (cy : Nat → ClassId) (s0 : Nat) (p : Program) (l : Launch) (e : Env) (s : State) (m : MethodId) (args : Array Value) (below : List Frame) (meth : Method) (c : Code) (r : Int32 × Hp) (x0 : Nat) (h : Hp) : Prop := ∀ (H : Heap) (locs : List Loc) (ls : Array Slot) (cells slots : Nat), cells + (0) ≤ 0 → slots + (0) ≤ 0 → WS D cy s0 s h H locs → lv_has ls 1 [(0, .ref x0)] → W p l e rX0_isLegal s m args below meth c H locs cells slots (MQ below (QQ D cy s0 (some (.int r.1)) r.2) args s 0 0 (fun q => s0 ≤ q)) (F0 m 167 ls [])
abbrev pX0_isLegal_79 (D : va_G) (cy : Nat → ClassId) (s0 : Nat) (p : Program) (l : Launch) (e : Env) (s : State) (m : MethodId) (args : Array Value) (below : List Frame) (meth : Method) (c : Code) (r : Int32 × Hp)  (h : Hp) : Prop := ∀ (H : Heap) (locs : List Loc) (ls : Array Slot) (cells slots : Nat), cells + (0) ≤ 0 → slots + (0) ≤ 0 → WS D cy s0 s h H locs → lv_has ls 1 [] → W p l e rX0_isLegal s m args below meth c H locs cells slots (MQ below (QQ D cy s0 (some (.int r.1)) r.2) args s 0 0 (fun q => s0 ≤ q)) (F0 m 79 ls [])
abbrev pX0_isLegal (D : va_G) (cy : Nat → ClassId) (s0 : Nat) (p : Program) (l : Launch) (e : Env) (s : State) (m : MethodId) (args : Array Value) (below : List Frame) (meth : Method) (c : Code) (r : Int32 × Hp) (x0 : Nat) (h : Hp) : Prop := ∀ (H : Heap) (locs : List Loc) (ls : Array Slot) (cells slots : Nat), cells + (0) ≤ 0 → slots + (0) ≤ 0 → WS D cy s0 s h H locs → lv_has ls 1 [(0, .ref x0)] → W p l e rX0_isLegal s m args below meth c H locs cells slots (MQ below (QQ D cy s0 (some (.int r.1)) r.2) args s 0 0 (fun q => s0 ≤ q)) (F0 m 0 ls [])
set_option maxRecDepth 100000 in
set_option maxHeartbeats 4000000 in
theorem bX0_isLegal_167 {D : va_G} {cy : Nat → ClassId} {s0 : Nat} {p : Program} {l : Launch} {e : Env} {s : State} {m : MethodId} {args : Array Value} {below : List Frame} {meth : Method} {c : Code} (C : CX D cy s0 p s m args meth c cX0_isLegal 1 RX0 (some .boolean)) (hn : meth.name = "isLegal") : ∀ (x0 : Nat) (h : Hp) (r : Int32 × Hp), fX0_isLegal_167 x0 h = some r → pX0_isLegal_167 D cy s0 p l e s m args below meth c r x0 h := by
  intro x0 h ⟨rv, rh⟩ hf H locs ls cells slots hc hs hw hl
  unfold fX0_isLegal_167 at hf
  have hx := C.1
  have hb := C.2.1
  refine lv_aload_n hx hb dX0_isLegal_167 rfl (lv_at hl 0 rfl) ?_
  obtain ⟨z1, e1, hf⟩ := ob hf
  refine r_gI C hw e1 ck0 rfl (by decide) w502 dX0_isLegal_168 ?_
  obtain ⟨z2, h2, e2, hf⟩ := ob2 hf
  refine r_callSN C hw (mX9_isLease e2) kXX9_isLease nw746 w647 ⟨Nat.le_of_ble_eq_true rfl, Nat.le_of_ble_eq_true rfl⟩ rfl hl.1 (rest := []) rfl (Nat.le_of_ble_eq_true rfl) dX0_isLegal_171 (mc := 0) (ms := 0) rfl rfl ⟨by show _ + 0 ≤ 0; omega, by show _ + 0 ≤ 0; omega⟩ (fun H locs hw => ?_)
  refine W.eq (g2 := F0 m 174 ls [.int z2]) rfl ?_
  obtain ⟨gz, hf⟩ := ig hf
  obtain ⟨rfl, rfl⟩ := sp hf
  exact r_iret C hw rfl (nz gz) (by omega) (by omega) dX0_isLegal_174
set_option maxRecDepth 100000 in
set_option maxHeartbeats 4000000 in
theorem bX0_isLegal_79 {D : va_G} {cy : Nat → ClassId} {s0 : Nat} {p : Program} {l : Launch} {e : Env} {s : State} {m : MethodId} {args : Array Value} {below : List Frame} {meth : Method} {c : Code} (C : CX D cy s0 p s m args meth c cX0_isLegal 1 RX0 (some .boolean)) (hn : meth.name = "isLegal") : ∀  (h : Hp) (r : Int32 × Hp), fX0_isLegal_79  h = some r → pX0_isLegal_79 D cy s0 p l e s m args below meth c r  h := by
  intro  h ⟨rv, rh⟩ hf H locs ls cells slots hc hs hw hl
  unfold fX0_isLegal_79 at hf
  have hx := C.1
  have hb := C.2.1
  refine lv_iconst (v := (1 : Int32)) hx hb dX0_isLegal_79 (by decide) ?_
  refine lv_goto (tgt := 84) hx hb dX0_isLegal_80 (by decide) ?_
  obtain ⟨rfl, rfl⟩ := sp hf
  exact r_iret C hw rfl (nz (Or.inr rfl)) (by omega) (by omega) dX0_isLegal_84
set_option maxRecDepth 100000 in
set_option maxHeartbeats 4000000 in
theorem bX0_isLegal {D : va_G} {cy : Nat → ClassId} {s0 : Nat} {p : Program} {l : Launch} {e : Env} {s : State} {m : MethodId} {args : Array Value} {below : List Frame} {meth : Method} {c : Code} (C : CX D cy s0 p s m args meth c cX0_isLegal 1 RX0 (some .boolean)) (hn : meth.name = "isLegal") : ∀ (x0 : Nat) (h : Hp) (r : Int32 × Hp), fX0_isLegal x0 h = some r → pX0_isLegal D cy s0 p l e s m args below meth c r x0 h := by
  intro x0 h ⟨rv, rh⟩ hf H locs ls cells slots hc hs hw hl
  unfold fX0_isLegal at hf
  have hx := C.1
  have hb := C.2.1
  refine lv_aload_n hx hb dX0_isLegal_0 rfl (lv_at hl 0 rfl) ?_
  obtain ⟨z1, e1, hf⟩ := ob hf
  refine r_gI C hw e1 ck0 rfl (by decide) w500 dX0_isLegal_1 ?_
  by_cases n30 : z1 = (1 : Int32)
  · have hf := ip hf n30
    refine lv_tableIn (tgt := 52) (off := 48) hx hb dX0_isLegal_4 (by rw [n30]; decide) (by rw [n30]; decide) (by rw [n30]; rfl) (by decide) ?_
    refine lv_aload_n hx hb dX0_isLegal_52 rfl (lv_at hl 0 rfl) ?_
    obtain ⟨z2, e2, hf⟩ := ob hf
    refine r_gI C hw e2 ck0 rfl (by decide) w502 dX0_isLegal_53 ?_
    obtain ⟨z3, h3, e3, hf⟩ := ob2 hf
    refine r_callSN C hw (mX9_isKey e3) kXX9_isKey nw745 w657 ⟨Nat.le_of_ble_eq_true rfl, Nat.le_of_ble_eq_true rfl⟩ rfl hl.1 (rest := []) rfl (Nat.le_of_ble_eq_true rfl) dX0_isLegal_56 (mc := 0) (ms := 0) rfl rfl ⟨by show _ + 0 ≤ 0; omega, by show _ + 0 ≤ 0; omega⟩ (fun H locs hw => ?_)
    refine W.eq (g2 := F0 m 59 ls [.int z3]) rfl ?_
    refine lv_if_eq (tgt := 83) hx hb dX0_isLegal_59 (by decide) (fun c4 => ?_) (fun c4 => ?_)
    · have hf := ip hf c4
      refine lv_iconst (v := (0 : Int32)) hx hb dX0_isLegal_83 (by decide) ?_
      obtain ⟨rfl, rfl⟩ := sp hf
      exact r_iret C hw rfl (nz (Or.inl rfl)) (by omega) (by omega) dX0_isLegal_84
    · have hf := ie hf c4
      refine lv_aload_n hx hb dX0_isLegal_62 rfl (lv_at hl 0 rfl) ?_
      obtain ⟨z5, e5, hf⟩ := ob hf
      refine r_gI C hw e5 ck0 rfl (by decide) w506 dX0_isLegal_63 ?_
      refine lv_if_eq (tgt := 79) hx hb dX0_isLegal_66 (by decide) (fun c6 => ?_) (fun c6 => ?_)
      · have hf := ip hf c6
        exact bX0_isLegal_79 C hn _ _ hf _ _ _ _ _ (by omega) (by omega) hw (lv_sub hl [] rfl)
      · have hf := ie hf c6
        refine lv_aload_n hx hb dX0_isLegal_69 rfl (lv_at hl 0 rfl) ?_
        obtain ⟨z7, e7, hf⟩ := ob hf
        refine r_gI C hw e7 ck0 rfl (by decide) w506 dX0_isLegal_70 ?_
        obtain ⟨z8, h8, e8, hf⟩ := ob2 hf
        refine r_callSN C hw (mX9_isLease e8) kXX9_isLease nw746 w647 ⟨Nat.le_of_ble_eq_true rfl, Nat.le_of_ble_eq_true rfl⟩ rfl hl.1 (rest := []) rfl (Nat.le_of_ble_eq_true rfl) dX0_isLegal_73 (mc := 0) (ms := 0) rfl rfl ⟨by show _ + 0 ≤ 0; omega, by show _ + 0 ≤ 0; omega⟩ (fun H locs hw => ?_)
        refine W.eq (g2 := F0 m 76 ls [.int z8]) rfl ?_
        refine lv_if_eq (tgt := 83) hx hb dX0_isLegal_76 (by decide) (fun c9 => ?_) (fun c9 => ?_)
        · have hf := ip hf c9
          refine lv_iconst (v := (0 : Int32)) hx hb dX0_isLegal_83 (by decide) ?_
          obtain ⟨rfl, rfl⟩ := sp hf
          exact r_iret C hw rfl (nz (Or.inl rfl)) (by omega) (by omega) dX0_isLegal_84
        · have hf := ie hf c9
          exact bX0_isLegal_79 C hn _ _ hf _ _ _ _ _ (by omega) (by omega) hw (lv_sub hl [] rfl)
  · have hf := ie hf n30
    by_cases n31 : z1 = (2 : Int32)
    · have hf := ip hf n31
      refine lv_tableIn (tgt := 85) (off := 81) hx hb dX0_isLegal_4 (by rw [n31]; decide) (by rw [n31]; decide) (by rw [n31]; rfl) (by decide) ?_
      refine lv_aload_n hx hb dX0_isLegal_85 rfl (lv_at hl 0 rfl) ?_
      obtain ⟨z10, e10, hf⟩ := ob hf
      refine r_gI C hw e10 ck0 rfl (by decide) w502 dX0_isLegal_86 ?_
      obtain ⟨z11, h11, e11, hf⟩ := ob2 hf
      refine r_callSN C hw (mX9_isKey e11) kXX9_isKey nw745 w657 ⟨Nat.le_of_ble_eq_true rfl, Nat.le_of_ble_eq_true rfl⟩ rfl hl.1 (rest := []) rfl (Nat.le_of_ble_eq_true rfl) dX0_isLegal_89 (mc := 0) (ms := 0) rfl rfl ⟨by show _ + 0 ≤ 0; omega, by show _ + 0 ≤ 0; omega⟩ (fun H locs hw => ?_)
      refine W.eq (g2 := F0 m 92 ls [.int z11]) rfl ?_
      refine lv_if_eq (tgt := 109) hx hb dX0_isLegal_92 (by decide) (fun c12 => ?_) (fun c12 => ?_)
      · have hf := ip hf c12
        refine lv_iconst (v := (0 : Int32)) hx hb dX0_isLegal_109 (by decide) ?_
        obtain ⟨rfl, rfl⟩ := sp hf
        exact r_iret C hw rfl (nz (Or.inl rfl)) (by omega) (by omega) dX0_isLegal_110
      · have hf := ie hf c12
        refine lv_aload_n hx hb dX0_isLegal_95 rfl (lv_at hl 0 rfl) ?_
        obtain ⟨z13, e13, hf⟩ := ob hf
        refine r_gI C hw e13 ck0 rfl (by decide) w504 dX0_isLegal_96 ?_
        obtain ⟨z14, h14, e14, hf⟩ := ob2 hf
        refine r_callSN C hw (mX9_isKey e14) kXX9_isKey nw745 w657 ⟨Nat.le_of_ble_eq_true rfl, Nat.le_of_ble_eq_true rfl⟩ rfl hl.1 (rest := []) rfl (Nat.le_of_ble_eq_true rfl) dX0_isLegal_99 (mc := 0) (ms := 0) rfl rfl ⟨by show _ + 0 ≤ 0; omega, by show _ + 0 ≤ 0; omega⟩ (fun H locs hw => ?_)
        refine W.eq (g2 := F0 m 102 ls [.int z14]) rfl ?_
        refine lv_if_eq (tgt := 109) hx hb dX0_isLegal_102 (by decide) (fun c15 => ?_) (fun c15 => ?_)
        · have hf := ip hf c15
          refine lv_iconst (v := (0 : Int32)) hx hb dX0_isLegal_109 (by decide) ?_
          obtain ⟨rfl, rfl⟩ := sp hf
          exact r_iret C hw rfl (nz (Or.inl rfl)) (by omega) (by omega) dX0_isLegal_110
        · have hf := ie hf c15
          refine lv_iconst (v := (1 : Int32)) hx hb dX0_isLegal_105 (by decide) ?_
          refine lv_goto (tgt := 110) hx hb dX0_isLegal_106 (by decide) ?_
          obtain ⟨rfl, rfl⟩ := sp hf
          exact r_iret C hw rfl (nz (Or.inr rfl)) (by omega) (by omega) dX0_isLegal_110
    · have hf := ie hf n31
      by_cases n32 : z1 = (3 : Int32)
      · have hf := ip hf n32
        refine lv_tableIn (tgt := 111) (off := 107) hx hb dX0_isLegal_4 (by rw [n32]; decide) (by rw [n32]; decide) (by rw [n32]; rfl) (by decide) ?_
        refine lv_aload_n hx hb dX0_isLegal_111 rfl (lv_at hl 0 rfl) ?_
        obtain ⟨z16, e16, hf⟩ := ob hf
        refine r_gI C hw e16 ck0 rfl (by decide) w502 dX0_isLegal_112 ?_
        obtain ⟨z17, h17, e17, hf⟩ := ob2 hf
        refine r_callSN C hw (mX9_isKey e17) kXX9_isKey nw745 w657 ⟨Nat.le_of_ble_eq_true rfl, Nat.le_of_ble_eq_true rfl⟩ rfl hl.1 (rest := []) rfl (Nat.le_of_ble_eq_true rfl) dX0_isLegal_115 (mc := 0) (ms := 0) rfl rfl ⟨by show _ + 0 ≤ 0; omega, by show _ + 0 ≤ 0; omega⟩ (fun H locs hw => ?_)
        refine W.eq (g2 := F0 m 118 ls [.int z17]) rfl ?_
        refine lv_if_eq (tgt := 165) hx hb dX0_isLegal_118 (by decide) (fun c18 => ?_) (fun c18 => ?_)
        · have hf := ip hf c18
          refine lv_iconst (v := (0 : Int32)) hx hb dX0_isLegal_165 (by decide) ?_
          obtain ⟨rfl, rfl⟩ := sp hf
          exact r_iret C hw rfl (nz (Or.inl rfl)) (by omega) (by omega) dX0_isLegal_166
        · have hf := ie hf c18
          refine lv_aload_n hx hb dX0_isLegal_121 rfl (lv_at hl 0 rfl) ?_
          obtain ⟨z19, e19, hf⟩ := ob hf
          refine r_gI C hw e19 ck0 rfl (by decide) w510 dX0_isLegal_122 ?_
          obtain ⟨z20, h20, e20, hf⟩ := ob2 hf
          refine r_callSN C hw (mX9_isKey e20) kXX9_isKey nw745 w657 ⟨Nat.le_of_ble_eq_true rfl, Nat.le_of_ble_eq_true rfl⟩ rfl hl.1 (rest := []) rfl (Nat.le_of_ble_eq_true rfl) dX0_isLegal_125 (mc := 0) (ms := 0) rfl rfl ⟨by show _ + 0 ≤ 0; omega, by show _ + 0 ≤ 0; omega⟩ (fun H locs hw => ?_)
          refine W.eq (g2 := F0 m 128 ls [.int z20]) rfl ?_
          refine lv_if_eq (tgt := 165) hx hb dX0_isLegal_128 (by decide) (fun c21 => ?_) (fun c21 => ?_)
          · have hf := ip hf c21
            refine lv_iconst (v := (0 : Int32)) hx hb dX0_isLegal_165 (by decide) ?_
            obtain ⟨rfl, rfl⟩ := sp hf
            exact r_iret C hw rfl (nz (Or.inl rfl)) (by omega) (by omega) dX0_isLegal_166
          · have hf := ie hf c21
            refine lv_aload_n hx hb dX0_isLegal_131 rfl (lv_at hl 0 rfl) ?_
            obtain ⟨z22, e22, hf⟩ := ob hf
            refine r_gI C hw e22 ck0 rfl (by decide) w504 dX0_isLegal_132 ?_
            refine lv_if_lt (tgt := 165) hx hb dX0_isLegal_135 (by decide) (fun c23 => ?_) (fun c23 => ?_)
            · have hf := ip hf c23
              refine lv_iconst (v := (0 : Int32)) hx hb dX0_isLegal_165 (by decide) ?_
              obtain ⟨rfl, rfl⟩ := sp hf
              exact r_iret C hw rfl (nz (Or.inl rfl)) (by omega) (by omega) dX0_isLegal_166
            · have hf := ie hf c23
              refine lv_aload_n hx hb dX0_isLegal_138 rfl (lv_at hl 0 rfl) ?_
              obtain ⟨z24, e24, hf⟩ := ob hf
              refine r_gI C hw e24 ck0 rfl (by decide) w504 dX0_isLegal_139 ?_
              refine lv_iconst (v := (3 : Int32)) hx hb dX0_isLegal_142 (by decide) ?_
              refine lv_icmp_gt (tgt := 165) hx hb dX0_isLegal_143 (by decide) (fun c25 => ?_) (fun c25 => ?_)
              · have hf := ip hf c25
                refine lv_iconst (v := (0 : Int32)) hx hb dX0_isLegal_165 (by decide) ?_
                obtain ⟨rfl, rfl⟩ := sp hf
                exact r_iret C hw rfl (nz (Or.inl rfl)) (by omega) (by omega) dX0_isLegal_166
              · have hf := ie hf c25
                refine lv_aload_n hx hb dX0_isLegal_146 rfl (lv_at hl 0 rfl) ?_
                obtain ⟨z26, e26, hf⟩ := ob hf
                refine r_gI C hw e26 ck0 rfl (by decide) w506 dX0_isLegal_147 ?_
                refine lv_if_lt (tgt := 165) hx hb dX0_isLegal_150 (by decide) (fun c27 => ?_) (fun c27 => ?_)
                · have hf := ip hf c27
                  refine lv_iconst (v := (0 : Int32)) hx hb dX0_isLegal_165 (by decide) ?_
                  obtain ⟨rfl, rfl⟩ := sp hf
                  exact r_iret C hw rfl (nz (Or.inl rfl)) (by omega) (by omega) dX0_isLegal_166
                · have hf := ie hf c27
                  refine lv_aload_n hx hb dX0_isLegal_153 rfl (lv_at hl 0 rfl) ?_
                  obtain ⟨z28, e28, hf⟩ := ob hf
                  refine r_gI C hw e28 ck0 rfl (by decide) w506 dX0_isLegal_154 ?_
                  refine lv_iconst (v := (2 : Int32)) hx hb dX0_isLegal_157 (by decide) ?_
                  refine lv_icmp_gt (tgt := 165) hx hb dX0_isLegal_158 (by decide) (fun c29 => ?_) (fun c29 => ?_)
                  · have hf := ip hf c29
                    refine lv_iconst (v := (0 : Int32)) hx hb dX0_isLegal_165 (by decide) ?_
                    obtain ⟨rfl, rfl⟩ := sp hf
                    exact r_iret C hw rfl (nz (Or.inl rfl)) (by omega) (by omega) dX0_isLegal_166
                  · have hf := ie hf c29
                    refine lv_iconst (v := (1 : Int32)) hx hb dX0_isLegal_161 (by decide) ?_
                    refine lv_goto (tgt := 166) hx hb dX0_isLegal_162 (by decide) ?_
                    obtain ⟨rfl, rfl⟩ := sp hf
                    exact r_iret C hw rfl (nz (Or.inr rfl)) (by omega) (by omega) dX0_isLegal_166
      · have hf := ie hf n32
        by_cases n33 : z1 = (4 : Int32)
        · have hf := ip hf n33
          refine lv_tableIn (tgt := 167) (off := 163) hx hb dX0_isLegal_4 (by rw [n33]; decide) (by rw [n33]; decide) (by rw [n33]; rfl) (by decide) ?_
          exact bX0_isLegal_167 C hn _ _ _ hf _ _ _ _ _ (by omega) (by omega) hw (lv_sub hl [0] rfl)
        · have hf := ie hf n33
          by_cases n34 : z1 = (5 : Int32)
          · have hf := ip hf n34
            refine lv_tableIn (tgt := 167) (off := 163) hx hb dX0_isLegal_4 (by rw [n34]; decide) (by rw [n34]; decide) (by rw [n34]; rfl) (by decide) ?_
            exact bX0_isLegal_167 C hn _ _ _ hf _ _ _ _ _ (by omega) (by omega) hw (lv_sub hl [0] rfl)
          · have hf := ie hf n34
            by_cases n35 : z1 = (6 : Int32)
            · have hf := ip hf n35
              refine lv_tableIn (tgt := 167) (off := 163) hx hb dX0_isLegal_4 (by rw [n35]; decide) (by rw [n35]; decide) (by rw [n35]; rfl) (by decide) ?_
              exact bX0_isLegal_167 C hn _ _ _ hf _ _ _ _ _ (by omega) (by omega) hw (lv_sub hl [0] rfl)
            · have hf := ie hf n35
              by_cases n36 : z1 = (7 : Int32)
              · have hf := ip hf n36
                refine lv_tableIn (tgt := 175) (off := 171) hx hb dX0_isLegal_4 (by rw [n36]; decide) (by rw [n36]; decide) (by rw [n36]; rfl) (by decide) ?_
                refine lv_iconst (v := (1 : Int32)) hx hb dX0_isLegal_175 (by decide) ?_
                obtain ⟨rfl, rfl⟩ := sp hf
                exact r_iret C hw rfl (nz (Or.inr rfl)) (by omega) (by omega) dX0_isLegal_176
              · have hf := ie hf n36
                by_cases n37 : z1 = (8 : Int32)
                · have hf := ip hf n37
                  refine lv_tableIn (tgt := 175) (off := 171) hx hb dX0_isLegal_4 (by rw [n37]; decide) (by rw [n37]; decide) (by rw [n37]; rfl) (by decide) ?_
                  refine lv_iconst (v := (1 : Int32)) hx hb dX0_isLegal_175 (by decide) ?_
                  obtain ⟨rfl, rfl⟩ := sp hf
                  exact r_iret C hw rfl (nz (Or.inr rfl)) (by omega) (by omega) dX0_isLegal_176
                · have hf := ie hf n37
                  refine lv_tableOut (tgt := 177) hx hb dX0_isLegal_4 (tsw_out (x := z1) 1 [(1 : Int32), (2 : Int32), (3 : Int32), (4 : Int32), (5 : Int32), (6 : Int32), (7 : Int32), (8 : Int32)] (by decide) (List.forall_mem_cons.mpr ⟨n30, List.forall_mem_cons.mpr ⟨n31, List.forall_mem_cons.mpr ⟨n32, List.forall_mem_cons.mpr ⟨n33, List.forall_mem_cons.mpr ⟨n34, List.forall_mem_cons.mpr ⟨n35, List.forall_mem_cons.mpr ⟨n36, List.forall_mem_cons.mpr ⟨n37, fun _ h9 => absurd h9 List.not_mem_nil⟩⟩⟩⟩⟩⟩⟩⟩)) (by decide) ?_
                  refine lv_iconst (v := (0 : Int32)) hx hb dX0_isLegal_177 (by decide) ?_
                  obtain ⟨rfl, rfl⟩ := sp hf
                  exact r_iret C hw rfl (nz (Or.inl rfl)) (by omega) (by omega) dX0_isLegal_178
theorem kXX0_isLegal : MK yX0_isLegal cX0_isLegal 1 (some .boolean) 0 := ⟨w744, w16, by decide +kernel⟩
theorem mX0_isLegal {D : va_G} {cy : Nat → ClassId} {s0 : Nat} {l : Launch} {x0 : Nat} {h : Hp} {v : Int32} {h1 : Hp} (hf : fX0_isLegal x0 h = some (v, h1)) : MT D cy s0 l yX0_isLegal cX0_isLegal 1 (some .boolean) rX0_isLegal [.ref x0] h (some (.int v)) h1 := by
  refine MT.of (by decide +kernel) (Nat.le_of_ble_eq_true rfl) ?_
  intro p e s m below meth c H locs ls C hn hw hl
  exact bX0_isLegal C hn _ _ _ hf _ _ _ _ _ (Nat.le_of_ble_eq_true rfl) (Nat.le_of_ble_eq_true rfl) hw hl
abbrev rX0_isLike : Room := { frames := 0, cells := 0, slots := 0, locals := 0 }
abbrev pX0_isLike (D : va_G) (cy : Nat → ClassId) (s0 : Nat) (p : Program) (l : Launch) (e : Env) (s : State) (m : MethodId) (args : Array Value) (below : List Frame) (meth : Method) (c : Code) (r : Int32 × Hp) (x0 : Nat) (x1 : Nat) (h : Hp) : Prop := ∀ (H : Heap) (locs : List Loc) (ls : Array Slot) (cells slots : Nat), cells + (0) ≤ 0 → slots + (0) ≤ 0 → WS D cy s0 s h H locs → lv_has ls 2 [(0, .ref x0), (1, .ref x1)] → W p l e rX0_isLike s m args below meth c H locs cells slots (MQ below (QQ D cy s0 (some (.int r.1)) r.2) args s 0 0 (fun q => s0 ≤ q)) (F0 m 0 ls [])
set_option maxRecDepth 100000 in
set_option maxHeartbeats 4000000 in
theorem bX0_isLike {D : va_G} {cy : Nat → ClassId} {s0 : Nat} {p : Program} {l : Launch} {e : Env} {s : State} {m : MethodId} {args : Array Value} {below : List Frame} {meth : Method} {c : Code} (C : CX D cy s0 p s m args meth c cX0_isLike 2 RX0 (some .boolean)) (hn : meth.name = "isLike") : ∀ (x0 : Nat) (x1 : Nat) (h : Hp) (r : Int32 × Hp), fX0_isLike x0 x1 h = some r → pX0_isLike D cy s0 p l e s m args below meth c r x0 x1 h := by
  intro x0 x1 h ⟨rv, rh⟩ hf H locs ls cells slots hc hs hw hl
  unfold fX0_isLike at hf
  have hx := C.1
  have hb := C.2.1
  refine lv_aload_n hx hb dX0_isLike_0 rfl (lv_at hl 0 rfl) ?_
  obtain ⟨z1, e1, hf⟩ := ob hf
  refine r_gI C hw e1 ck0 rfl (by decide) w500 dX0_isLike_1 ?_
  refine lv_aload_n hx hb dX0_isLike_4 rfl (lv_at hl 1 rfl) ?_
  obtain ⟨z2, e2, hf⟩ := ob hf
  refine r_gI C hw e2 ck0 rfl (by decide) w500 dX0_isLike_5 ?_
  refine lv_icmp_ne (tgt := 81) hx hb dX0_isLike_8 (by decide) (fun c3 => ?_) (fun c3 => ?_)
  · have hf := ie hf c3
    refine lv_iconst (v := (0 : Int32)) hx hb dX0_isLike_81 (by decide) ?_
    obtain ⟨rfl, rfl⟩ := sp hf
    exact r_iret C hw rfl (nz (Or.inl rfl)) (by omega) (by omega) dX0_isLike_82
  · have hf := ip hf c3
    refine lv_aload_n hx hb dX0_isLike_11 rfl (lv_at hl 0 rfl) ?_
    obtain ⟨z4, e4, hf⟩ := ob hf
    refine r_gI C hw e4 ck0 rfl (by decide) w502 dX0_isLike_12 ?_
    refine lv_aload_n hx hb dX0_isLike_15 rfl (lv_at hl 1 rfl) ?_
    obtain ⟨z5, e5, hf⟩ := ob hf
    refine r_gI C hw e5 ck0 rfl (by decide) w502 dX0_isLike_16 ?_
    refine lv_icmp_ne (tgt := 81) hx hb dX0_isLike_19 (by decide) (fun c6 => ?_) (fun c6 => ?_)
    · have hf := ie hf c6
      refine lv_iconst (v := (0 : Int32)) hx hb dX0_isLike_81 (by decide) ?_
      obtain ⟨rfl, rfl⟩ := sp hf
      exact r_iret C hw rfl (nz (Or.inl rfl)) (by omega) (by omega) dX0_isLike_82
    · have hf := ip hf c6
      refine lv_aload_n hx hb dX0_isLike_22 rfl (lv_at hl 0 rfl) ?_
      obtain ⟨z7, e7, hf⟩ := ob hf
      refine r_gI C hw e7 ck0 rfl (by decide) w504 dX0_isLike_23 ?_
      refine lv_aload_n hx hb dX0_isLike_26 rfl (lv_at hl 1 rfl) ?_
      obtain ⟨z8, e8, hf⟩ := ob hf
      refine r_gI C hw e8 ck0 rfl (by decide) w504 dX0_isLike_27 ?_
      refine lv_icmp_ne (tgt := 81) hx hb dX0_isLike_30 (by decide) (fun c9 => ?_) (fun c9 => ?_)
      · have hf := ie hf c9
        refine lv_iconst (v := (0 : Int32)) hx hb dX0_isLike_81 (by decide) ?_
        obtain ⟨rfl, rfl⟩ := sp hf
        exact r_iret C hw rfl (nz (Or.inl rfl)) (by omega) (by omega) dX0_isLike_82
      · have hf := ip hf c9
        refine lv_aload_n hx hb dX0_isLike_33 rfl (lv_at hl 0 rfl) ?_
        obtain ⟨z10, e10, hf⟩ := ob hf
        refine r_gI C hw e10 ck0 rfl (by decide) w506 dX0_isLike_34 ?_
        refine lv_aload_n hx hb dX0_isLike_37 rfl (lv_at hl 1 rfl) ?_
        obtain ⟨z11, e11, hf⟩ := ob hf
        refine r_gI C hw e11 ck0 rfl (by decide) w506 dX0_isLike_38 ?_
        refine lv_icmp_ne (tgt := 81) hx hb dX0_isLike_41 (by decide) (fun c12 => ?_) (fun c12 => ?_)
        · have hf := ie hf c12
          refine lv_iconst (v := (0 : Int32)) hx hb dX0_isLike_81 (by decide) ?_
          obtain ⟨rfl, rfl⟩ := sp hf
          exact r_iret C hw rfl (nz (Or.inl rfl)) (by omega) (by omega) dX0_isLike_82
        · have hf := ip hf c12
          refine lv_aload_n hx hb dX0_isLike_44 rfl (lv_at hl 0 rfl) ?_
          obtain ⟨z13, e13, hf⟩ := ob hf
          refine r_gI C hw e13 ck0 rfl (by decide) w508 dX0_isLike_45 ?_
          refine lv_aload_n hx hb dX0_isLike_48 rfl (lv_at hl 1 rfl) ?_
          obtain ⟨z14, e14, hf⟩ := ob hf
          refine r_gI C hw e14 ck0 rfl (by decide) w508 dX0_isLike_49 ?_
          refine lv_icmp_ne (tgt := 81) hx hb dX0_isLike_52 (by decide) (fun c15 => ?_) (fun c15 => ?_)
          · have hf := ie hf c15
            refine lv_iconst (v := (0 : Int32)) hx hb dX0_isLike_81 (by decide) ?_
            obtain ⟨rfl, rfl⟩ := sp hf
            exact r_iret C hw rfl (nz (Or.inl rfl)) (by omega) (by omega) dX0_isLike_82
          · have hf := ip hf c15
            refine lv_aload_n hx hb dX0_isLike_55 rfl (lv_at hl 0 rfl) ?_
            obtain ⟨z16, e16, hf⟩ := ob hf
            refine r_gI C hw e16 ck0 rfl (by decide) w510 dX0_isLike_56 ?_
            refine lv_aload_n hx hb dX0_isLike_59 rfl (lv_at hl 1 rfl) ?_
            obtain ⟨z17, e17, hf⟩ := ob hf
            refine r_gI C hw e17 ck0 rfl (by decide) w510 dX0_isLike_60 ?_
            refine lv_icmp_ne (tgt := 81) hx hb dX0_isLike_63 (by decide) (fun c18 => ?_) (fun c18 => ?_)
            · have hf := ie hf c18
              refine lv_iconst (v := (0 : Int32)) hx hb dX0_isLike_81 (by decide) ?_
              obtain ⟨rfl, rfl⟩ := sp hf
              exact r_iret C hw rfl (nz (Or.inl rfl)) (by omega) (by omega) dX0_isLike_82
            · have hf := ip hf c18
              refine lv_aload_n hx hb dX0_isLike_66 rfl (lv_at hl 0 rfl) ?_
              obtain ⟨z19, e19, hf⟩ := ob hf
              refine r_gI C hw e19 ck0 rfl (by decide) w512 dX0_isLike_67 ?_
              refine lv_aload_n hx hb dX0_isLike_70 rfl (lv_at hl 1 rfl) ?_
              obtain ⟨z20, e20, hf⟩ := ob hf
              refine r_gI C hw e20 ck0 rfl (by decide) w512 dX0_isLike_71 ?_
              refine lv_icmp_ne (tgt := 81) hx hb dX0_isLike_74 (by decide) (fun c21 => ?_) (fun c21 => ?_)
              · have hf := ie hf c21
                refine lv_iconst (v := (0 : Int32)) hx hb dX0_isLike_81 (by decide) ?_
                obtain ⟨rfl, rfl⟩ := sp hf
                exact r_iret C hw rfl (nz (Or.inl rfl)) (by omega) (by omega) dX0_isLike_82
              · have hf := ip hf c21
                refine lv_iconst (v := (1 : Int32)) hx hb dX0_isLike_77 (by decide) ?_
                refine lv_goto (tgt := 82) hx hb dX0_isLike_78 (by decide) ?_
                obtain ⟨rfl, rfl⟩ := sp hf
                exact r_iret C hw rfl (nz (Or.inr rfl)) (by omega) (by omega) dX0_isLike_82
theorem kXX0_isLike : MK yX0_isLike cX0_isLike 2 (some .boolean) 1 := ⟨w633, w16, by decide +kernel⟩
theorem mX0_isLike {D : va_G} {cy : Nat → ClassId} {s0 : Nat} {l : Launch} {x0 : Nat} {x1 : Nat} {h : Hp} {v : Int32} {h1 : Hp} (hf : fX0_isLike x0 x1 h = some (v, h1)) : MT D cy s0 l yX0_isLike cX0_isLike 2 (some .boolean) rX0_isLike [.ref x0, .ref x1] h (some (.int v)) h1 := by
  refine MT.of (by decide +kernel) (Nat.le_of_ble_eq_true rfl) ?_
  intro p e s m below meth c H locs ls C hn hw hl
  exact bX0_isLike C hn _ _ _ _ hf _ _ _ _ _ (Nat.le_of_ble_eq_true rfl) (Nat.le_of_ble_eq_true rfl) hw hl
abbrev rX10_at : Room := { frames := 0, cells := 0, slots := 0, locals := 0 }
abbrev pX10_at (D : va_G) (cy : Nat → ClassId) (s0 : Nat) (p : Program) (l : Launch) (e : Env) (s : State) (m : MethodId) (args : Array Value) (below : List Frame) (meth : Method) (c : Code) (r : Int32 × Hp) (x0 : Nat) (x1 : Int32) (x2 : Int32) (h : Hp) : Prop := ∀ (H : Heap) (locs : List Loc) (ls : Array Slot) (cells slots : Nat), cells + (0) ≤ 0 → slots + (0) ≤ 0 → WS D cy s0 s h H locs → lv_has ls 3 [(0, .ref x0), (1, .int x1), (2, .int x2)] → W p l e rX10_at s m args below meth c H locs cells slots (MQ below (QQ D cy s0 (some (.int r.1)) r.2) args s 0 0 (fun q => s0 ≤ q)) (F0 m 0 ls [])
set_option maxRecDepth 100000 in
set_option maxHeartbeats 4000000 in
theorem bX10_at {D : va_G} {cy : Nat → ClassId} {s0 : Nat} {p : Program} {l : Launch} {e : Env} {s : State} {m : MethodId} {args : Array Value} {below : List Frame} {meth : Method} {c : Code} (C : CX D cy s0 p s m args meth c cX10_at 3 RX10 (some .int)) (hn : meth.name = "at") : ∀ (x0 : Nat) (x1 : Int32) (x2 : Int32) (h : Hp) (r : Int32 × Hp), fX10_at x0 x1 x2 h = some r → pX10_at D cy s0 p l e s m args below meth c r x0 x1 x2 h := by
  intro x0 x1 x2 h ⟨rv, rh⟩ hf H locs ls cells slots hc hs hw hl
  unfold fX10_at at hf
  have hx := C.1
  have hb := C.2.1
  refine lv_iload_n hx hb dX10_at_0 rfl (lv_at hl 1 rfl) ?_
  refine lv_sipush (v := (1201 : Int32)) hx hb dX10_at_1 (by decide) ?_
  refine lv_imul hx hb dX10_at_4 ?_
  refine lv_iload_n hx hb dX10_at_5 rfl (lv_at hl 2 rfl) ?_
  refine lv_iadd hx hb dX10_at_6 ?_
  refine lv_bipush (v := (8 : Int32)) hx hb dX10_at_7 (by decide) ?_
  refine lv_imul hx hb dX10_at_9 ?_
  obtain ⟨rfl, rfl⟩ := sp hf
  exact r_iret C hw rfl rfl (by omega) (by omega) dX10_at_10
theorem kXX10_at : MK yX10_at cX10_at 3 (some .int) 2 := ⟨w1155, w8, by decide +kernel⟩
theorem mX10_at {D : va_G} {cy : Nat → ClassId} {s0 : Nat} {l : Launch} {x0 : Nat} {x1 : Int32} {x2 : Int32} {h : Hp} {v : Int32} {h1 : Hp} (hf : fX10_at x0 x1 x2 h = some (v, h1)) : MT D cy s0 l yX10_at cX10_at 3 (some .int) rX10_at [.ref x0, .int x1, .int x2] h (some (.int v)) h1 := by
  refine MT.of (by decide +kernel) (Nat.le_of_ble_eq_true rfl) ?_
  intro p e s m below meth c H locs ls C hn hw hl
  exact bX10_at C hn _ _ _ _ _ hf _ _ _ _ _ (Nat.le_of_ble_eq_true rfl) (Nat.le_of_ble_eq_true rfl) hw hl
abbrev rX10_termAt : Room := { frames := 1, cells := 0, slots := 0, locals := 22 }
abbrev pX10_termAt (D : va_G) (cy : Nat → ClassId) (s0 : Nat) (p : Program) (l : Launch) (e : Env) (s : State) (m : MethodId) (args : Array Value) (below : List Frame) (meth : Method) (c : Code) (r : Int32 × Hp) (x0 : Nat) (x1 : Int32) (x2 : Int32) (h : Hp) : Prop := ∀ (H : Heap) (locs : List Loc) (ls : Array Slot) (cells slots : Nat), cells + (0) ≤ 0 → slots + (0) ≤ 0 → WS D cy s0 s h H locs → lv_has ls 3 [(0, .ref x0), (1, .int x1), (2, .int x2)] → W p l e rX10_termAt s m args below meth c H locs cells slots (MQ below (QQ D cy s0 (some (.int r.1)) r.2) args s 0 0 (fun q => s0 ≤ q)) (F0 m 0 ls [])
set_option maxRecDepth 100000 in
set_option maxHeartbeats 4000000 in
theorem bX10_termAt {D : va_G} {cy : Nat → ClassId} {s0 : Nat} {p : Program} {l : Launch} {e : Env} {s : State} {m : MethodId} {args : Array Value} {below : List Frame} {meth : Method} {c : Code} (C : CX D cy s0 p s m args meth c cX10_termAt 3 RX10 (some .int)) (hn : meth.name = "termAt") : ∀ (x0 : Nat) (x1 : Int32) (x2 : Int32) (h : Hp) (r : Int32 × Hp), fX10_termAt x0 x1 x2 h = some r → pX10_termAt D cy s0 p l e s m args below meth c r x0 x1 x2 h := by
  intro x0 x1 x2 h ⟨rv, rh⟩ hf H locs ls cells slots hc hs hw hl
  unfold fX10_termAt at hf
  have hx := C.1
  have hb := C.2.1
  refine lv_aload_n hx hb dX10_termAt_0 rfl (lv_at hl 0 rfl) ?_
  obtain ⟨z1, e1, hf⟩ := ob hf
  refine r_gR C hw e1 ck10 rfl (by decide) w976 dX10_termAt_1 ?_
  cases z1 with
  | none =>
    have hf := on_n hf
    cases hf
  | some a2 =>
    have hf := on_s hf
    refine W.eq (g2 := F0 m 4 ls [.ref a2]) rfl ?_
    refine lv_aload_n hx hb dX10_termAt_4 rfl (lv_at hl 0 rfl) ?_
    refine lv_iload_n hx hb dX10_termAt_5 rfl (lv_at hl 1 rfl) ?_
    refine lv_iload_n hx hb dX10_termAt_6 rfl (lv_at hl 2 rfl) ?_
    obtain ⟨kb3, hf⟩ := ig hf
    obtain ⟨z3, h3, e3, hf⟩ := ob2 hf
    refine r_callV C hw (mX10_at e3) kXX10_at ck10 rfl kb3 w1152 w1154 v40 ⟨Nat.le_of_ble_eq_true rfl, Nat.le_of_ble_eq_true rfl⟩ rfl hl.1 (rest := [.ref a2]) rfl (Nat.le_of_ble_eq_true rfl) dX10_termAt_7 (mc := 0) (ms := 0) rfl rfl ⟨by show _ + 0 ≤ 0; omega, by show _ + 0 ≤ 0; omega⟩ (fun H locs hw => ?_)
    refine W.eq (g2 := F0 m 10 ls [.int z3, .ref a2]) rfl ?_
    obtain ⟨z4, e4, hf⟩ := ob hf
    refine r_iald C hw e4 dX10_termAt_10 ?_
    obtain ⟨rfl, rfl⟩ := sp hf
    exact r_iret C hw rfl rfl (by omega) (by omega) dX10_termAt_11
theorem kXX10_termAt : MK yX10_termAt cX10_termAt 3 (some .int) 2 := ⟨w1151, w8, by decide +kernel⟩
theorem mX10_termAt {D : va_G} {cy : Nat → ClassId} {s0 : Nat} {l : Launch} {x0 : Nat} {x1 : Int32} {x2 : Int32} {h : Hp} {v : Int32} {h1 : Hp} (hf : fX10_termAt x0 x1 x2 h = some (v, h1)) : MT D cy s0 l yX10_termAt cX10_termAt 3 (some .int) rX10_termAt [.ref x0, .int x1, .int x2] h (some (.int v)) h1 := by
  refine MT.of (by decide +kernel) (Nat.le_of_ble_eq_true rfl) ?_
  intro p e s m below meth c H locs ls C hn hw hl
  exact bX10_termAt C hn _ _ _ _ _ hf _ _ _ _ _ (Nat.le_of_ble_eq_true rfl) (Nat.le_of_ble_eq_true rfl) hw hl
abbrev rX10_made : Room := { frames := 0, cells := 0, slots := 0, locals := 0 }
abbrev pX10_made (D : va_G) (cy : Nat → ClassId) (s0 : Nat) (p : Program) (l : Launch) (e : Env) (s : State) (m : MethodId) (args : Array Value) (below : List Frame) (meth : Method) (c : Code) (r : Int32 × Hp) (x0 : Nat) (x1 : Int32) (x2 : Int32) (x3 : Int32) (h : Hp) : Prop := ∀ (H : Heap) (locs : List Loc) (ls : Array Slot) (cells slots : Nat), cells + (0) ≤ 0 → slots + (0) ≤ 0 → WS D cy s0 s h H locs → lv_has ls 4 [(0, .ref x0), (1, .int x1), (2, .int x2), (3, .int x3)] → W p l e rX10_made s m args below meth c H locs cells slots (MQ below (QQ D cy s0 (some (.int r.1)) r.2) args s 0 0 (fun q => s0 ≤ q)) (F0 m 0 ls [])
set_option maxRecDepth 100000 in
set_option maxHeartbeats 4000000 in
theorem bX10_made {D : va_G} {cy : Nat → ClassId} {s0 : Nat} {p : Program} {l : Launch} {e : Env} {s : State} {m : MethodId} {args : Array Value} {below : List Frame} {meth : Method} {c : Code} (C : CX D cy s0 p s m args meth c cX10_made 4 RX10 (some .int)) (hn : meth.name = "made") : ∀ (x0 : Nat) (x1 : Int32) (x2 : Int32) (x3 : Int32) (h : Hp) (r : Int32 × Hp), fX10_made x0 x1 x2 x3 h = some r → pX10_made D cy s0 p l e s m args below meth c r x0 x1 x2 x3 h := by
  intro x0 x1 x2 x3 h ⟨rv, rh⟩ hf H locs ls cells slots hc hs hw hl
  unfold fX10_made at hf
  have hx := C.1
  have hb := C.2.1
  refine lv_aload_n hx hb dX10_made_0 rfl (lv_at hl 0 rfl) ?_
  obtain ⟨z1, e1, hf⟩ := ob hf
  refine r_gI C hw e1 ck10 rfl (by decide) w987 dX10_made_1 ?_
  refine lv_sipush (v := (3000 : Int32)) hx hb dX10_made_4 (by decide) ?_
  refine lv_icmp_ne (tgt := 12) hx hb dX10_made_7 (by decide) (fun c2 => ?_) (fun c2 => ?_)
  · have hf := ie hf c2
    refine lv_aload_n hx hb dX10_made_12 rfl (lv_at hl 0 rfl) ?_
    obtain ⟨z3, e3, hf⟩ := ob hf
    refine r_gR C hw e3 ck10 rfl (by decide) w978 dX10_made_13 ?_
    cases z3 with
    | none =>
      have hf := on_n hf
      cases hf
    | some a4 =>
      have hf := on_s hf
      refine W.eq (g2 := F0 m 16 ls [.ref a4]) rfl ?_
      refine lv_aload_n hx hb dX10_made_16 rfl (lv_at hl 0 rfl) ?_
      obtain ⟨z5, e5, hf⟩ := ob hf
      refine r_gI C hw e5 ck10 rfl (by decide) w987 dX10_made_17 ?_
      refine lv_iload_n hx hb dX10_made_20 rfl (lv_at hl 1 rfl) ?_
      obtain ⟨h6, e6, hf⟩ := ob hf
      refine r_iast C hw e6 dX10_made_21 (fun H locs hw => ?_)
      refine lv_aload_n hx hb dX10_made_22 rfl (lv_at hl 0 rfl) ?_
      obtain ⟨z7, e7, hf⟩ := ob hf
      refine r_gR C hw e7 ck10 rfl (by decide) w979 dX10_made_23 ?_
      cases z7 with
      | none =>
        have hf := on_n hf
        cases hf
      | some a8 =>
        have hf := on_s hf
        refine W.eq (g2 := F0 m 26 ls [.ref a8]) rfl ?_
        refine lv_aload_n hx hb dX10_made_26 rfl (lv_at hl 0 rfl) ?_
        obtain ⟨z9, e9, hf⟩ := ob hf
        refine r_gI C hw e9 ck10 rfl (by decide) w987 dX10_made_27 ?_
        refine lv_iload_n hx hb dX10_made_30 rfl (lv_at hl 2 rfl) ?_
        obtain ⟨h10, e10, hf⟩ := ob hf
        refine r_iast C hw e10 dX10_made_31 (fun H locs hw => ?_)
        refine lv_aload_n hx hb dX10_made_32 rfl (lv_at hl 0 rfl) ?_
        obtain ⟨z11, e11, hf⟩ := ob hf
        refine r_gR C hw e11 ck10 rfl (by decide) w980 dX10_made_33 ?_
        cases z11 with
        | none =>
          have hf := on_n hf
          cases hf
        | some a12 =>
          have hf := on_s hf
          refine W.eq (g2 := F0 m 36 ls [.ref a12]) rfl ?_
          refine lv_aload_n hx hb dX10_made_36 rfl (lv_at hl 0 rfl) ?_
          obtain ⟨z13, e13, hf⟩ := ob hf
          refine r_gI C hw e13 ck10 rfl (by decide) w987 dX10_made_37 ?_
          refine lv_iload_n hx hb dX10_made_40 rfl (lv_at hl 3 rfl) ?_
          obtain ⟨h14, e14, hf⟩ := ob hf
          refine r_iast C hw e14 dX10_made_41 (fun H locs hw => ?_)
          refine lv_aload_n hx hb dX10_made_42 rfl (lv_at hl 0 rfl) ?_
          obtain ⟨z15, e15, hf⟩ := ob hf
          refine r_gR C hw e15 ck10 rfl (by decide) w981 dX10_made_43 ?_
          cases z15 with
          | none =>
            have hf := on_n hf
            cases hf
          | some a16 =>
            have hf := on_s hf
            refine W.eq (g2 := F0 m 46 ls [.ref a16]) rfl ?_
            refine lv_aload_n hx hb dX10_made_46 rfl (lv_at hl 0 rfl) ?_
            obtain ⟨z17, e17, hf⟩ := ob hf
            refine r_gI C hw e17 ck10 rfl (by decide) w987 dX10_made_47 ?_
            refine lv_aload_n hx hb dX10_made_50 rfl (lv_at hl 0 rfl) ?_
            obtain ⟨z18, e18, hf⟩ := ob hf
            refine r_gR C hw e18 ck10 rfl (by decide) w965 dX10_made_51 ?_
            cases z18 with
            | none =>
              have hf := on_n hf
              cases hf
            | some a19 =>
              have hf := on_s hf
              refine W.eq (g2 := F0 m 54 ls [.ref a19, .int z17, .ref a16]) rfl ?_
              refine lv_iload_n hx hb dX10_made_54 rfl (lv_at hl 2 rfl) ?_
              obtain ⟨z20, e20, hf⟩ := ob hf
              refine r_iald C hw e20 dX10_made_55 ?_
              obtain ⟨h21, e21, hf⟩ := ob hf
              refine r_iast C hw e21 dX10_made_56 (fun H locs hw => ?_)
              refine lv_aload_n hx hb dX10_made_57 rfl (lv_at hl 0 rfl) ?_
              obtain ⟨z22, e22, hf⟩ := ob hf
              refine r_gR C hw e22 ck10 rfl (by decide) w982 dX10_made_58 ?_
              cases z22 with
              | none =>
                have hf := on_n hf
                cases hf
              | some a23 =>
                have hf := on_s hf
                refine W.eq (g2 := F0 m 61 ls [.ref a23]) rfl ?_
                refine lv_aload_n hx hb dX10_made_61 rfl (lv_at hl 0 rfl) ?_
                obtain ⟨z24, e24, hf⟩ := ob hf
                refine r_gI C hw e24 ck10 rfl (by decide) w987 dX10_made_62 ?_
                refine lv_iconst (v := (0 : Int32)) hx hb dX10_made_65 (by decide) ?_
                obtain ⟨h25, e25, hf⟩ := ob hf
                refine r_iast C hw e25 dX10_made_66 (fun H locs hw => ?_)
                refine lv_aload_n hx hb dX10_made_67 rfl (lv_at hl 0 rfl) ?_
                obtain ⟨z26, e26, hf⟩ := ob hf
                refine r_gR C hw e26 ck10 rfl (by decide) w983 dX10_made_68 ?_
                cases z26 with
                | none =>
                  have hf := on_n hf
                  cases hf
                | some a27 =>
                  have hf := on_s hf
                  refine W.eq (g2 := F0 m 71 ls [.ref a27]) rfl ?_
                  refine lv_aload_n hx hb dX10_made_71 rfl (lv_at hl 0 rfl) ?_
                  obtain ⟨z28, e28, hf⟩ := ob hf
                  refine r_gI C hw e28 ck10 rfl (by decide) w987 dX10_made_72 ?_
                  refine lv_iconst (v := (0 : Int32)) hx hb dX10_made_75 (by decide) ?_
                  obtain ⟨h29, e29, hf⟩ := ob hf
                  refine r_iast C hw e29 dX10_made_76 (fun H locs hw => ?_)
                  refine lv_aload_n hx hb dX10_made_77 rfl (lv_at hl 0 rfl) ?_
                  obtain ⟨z30, e30, hf⟩ := ob hf
                  refine r_gR C hw e30 ck10 rfl (by decide) w984 dX10_made_78 ?_
                  cases z30 with
                  | none =>
                    have hf := on_n hf
                    cases hf
                  | some a31 =>
                    have hf := on_s hf
                    refine W.eq (g2 := F0 m 81 ls [.ref a31]) rfl ?_
                    refine lv_aload_n hx hb dX10_made_81 rfl (lv_at hl 0 rfl) ?_
                    obtain ⟨z32, e32, hf⟩ := ob hf
                    refine r_gI C hw e32 ck10 rfl (by decide) w987 dX10_made_82 ?_
                    refine lv_iconst (v := (0 : Int32)) hx hb dX10_made_85 (by decide) ?_
                    obtain ⟨h33, e33, hf⟩ := ob hf
                    refine r_iast C hw e33 dX10_made_86 (fun H locs hw => ?_)
                    refine lv_aload_n hx hb dX10_made_87 rfl (lv_at hl 0 rfl) ?_
                    obtain ⟨z34, e34, hf⟩ := ob hf
                    refine r_gR C hw e34 ck10 rfl (by decide) w985 dX10_made_88 ?_
                    cases z34 with
                    | none =>
                      have hf := on_n hf
                      cases hf
                    | some a35 =>
                      have hf := on_s hf
                      refine W.eq (g2 := F0 m 91 ls [.ref a35]) rfl ?_
                      refine lv_aload_n hx hb dX10_made_91 rfl (lv_at hl 0 rfl) ?_
                      obtain ⟨z36, e36, hf⟩ := ob hf
                      refine r_gI C hw e36 ck10 rfl (by decide) w987 dX10_made_92 ?_
                      refine lv_iconst (v := (0 : Int32)) hx hb dX10_made_95 (by decide) ?_
                      obtain ⟨h37, e37, hf⟩ := ob hf
                      refine r_iast C hw e37 dX10_made_96 (fun H locs hw => ?_)
                      refine lv_aload_n hx hb dX10_made_97 rfl (lv_at hl 0 rfl) ?_
                      refine lv_dup hx hb dX10_made_98 rfl ?_
                      obtain ⟨z38, e38, hf⟩ := ob hf
                      refine r_gI C hw e38 ck10 rfl (by decide) w987 dX10_made_99 ?_
                      refine lv_iconst (v := (1 : Int32)) hx hb dX10_made_102 (by decide) ?_
                      refine lv_iadd hx hb dX10_made_103 ?_
                      obtain ⟨h39, e39, hf⟩ := ob hf
                      refine r_pI C hw e39 ck10 rfl (by decide) rfl w987 (Or.inl rfl) dX10_made_104 (fun H locs hw => ?_)
                      refine lv_aload_n hx hb dX10_made_107 rfl (lv_at hl 0 rfl) ?_
                      obtain ⟨z40, e40, hf⟩ := ob hf
                      refine r_gI C hw e40 ck10 rfl (by decide) w987 dX10_made_108 ?_
                      refine lv_iconst (v := (1 : Int32)) hx hb dX10_made_111 (by decide) ?_
                      refine lv_isub hx hb dX10_made_112 ?_
                      obtain ⟨rfl, rfl⟩ := sp hf
                      exact r_iret C hw rfl rfl (by omega) (by omega) dX10_made_113
  · have hf := ip hf c2
    refine lv_iconst (v := (-1 : Int32)) hx hb dX10_made_10 (by decide) ?_
    obtain ⟨rfl, rfl⟩ := sp hf
    exact r_iret C hw rfl rfl (by omega) (by omega) dX10_made_11
theorem kXX10_made : MK yX10_made cX10_made 4 (some .int) 3 := ⟨w1147, w8, by decide +kernel⟩
theorem mX10_made {D : va_G} {cy : Nat → ClassId} {s0 : Nat} {l : Launch} {x0 : Nat} {x1 : Int32} {x2 : Int32} {x3 : Int32} {h : Hp} {v : Int32} {h1 : Hp} (hf : fX10_made x0 x1 x2 x3 h = some (v, h1)) : MT D cy s0 l yX10_made cX10_made 4 (some .int) rX10_made [.ref x0, .int x1, .int x2, .int x3] h (some (.int v)) h1 := by
  refine MT.of (by decide +kernel) (Nat.le_of_ble_eq_true rfl) ?_
  intro p e s m below meth c H locs ls C hn hw hl
  exact bX10_made C hn _ _ _ _ _ _ hf _ _ _ _ _ (Nat.le_of_ble_eq_true rfl) (Nat.le_of_ble_eq_true rfl) hw hl
abbrev rX10_send : Room := { frames := 2, cells := 0, slots := 0, locals := 44 }
abbrev pX10_send_230 (D : va_G) (cy : Nat → ClassId) (s0 : Nat) (p : Program) (l : Launch) (e : Env) (s : State) (m : MethodId) (args : Array Value) (below : List Frame) (meth : Method) (c : Code) (r : Unit × Hp) (x0 : Nat) (x1 : Int32) (x3 : Int32) (x4 : Int32) (x5 : Int32) (h : Hp) : Prop := ∀ (H : Heap) (locs : List Loc) (ls : Array Slot) (cells slots : Nat), cells + (0) ≤ 0 → slots + (0) ≤ 0 → WS D cy s0 s h H locs → lv_has ls 6 [(0, .ref x0), (1, .int x1), (3, .int x3), (4, .int x4), (5, .int x5)] → W p l e rX10_send s m args below meth c H locs cells slots (MQ below (QQ D cy s0 none r.2) args s 0 0 (fun q => s0 ≤ q)) (F0 m 230 ls [])
abbrev pX10_send_93 (D : va_G) (cy : Nat → ClassId) (s0 : Nat) (p : Program) (l : Launch) (e : Env) (s : State) (m : MethodId) (args : Array Value) (below : List Frame) (meth : Method) (c : Code) (r : Unit × Hp) (x0 : Nat) (x1 : Int32) (x5 : Int32) (h : Hp) : Prop := ∀ (H : Heap) (locs : List Loc) (ls : Array Slot) (cells slots : Nat), cells + (0) ≤ 0 → slots + (0) ≤ 0 → WS D cy s0 s h H locs → lv_has ls 6 [(0, .ref x0), (1, .int x1), (5, .int x5)] → W p l e rX10_send s m args below meth c H locs cells slots (MQ below (QQ D cy s0 none r.2) args s 0 0 (fun q => s0 ≤ q)) (F0 m 93 ls [])
abbrev pX10_send (D : va_G) (cy : Nat → ClassId) (s0 : Nat) (p : Program) (l : Launch) (e : Env) (s : State) (m : MethodId) (args : Array Value) (below : List Frame) (meth : Method) (c : Code) (r : Unit × Hp) (x0 : Nat) (x1 : Int32) (x2 : Int32) (h : Hp) : Prop := ∀ (H : Heap) (locs : List Loc) (ls : Array Slot) (cells slots : Nat), cells + (0) ≤ 0 → slots + (0) ≤ 0 → WS D cy s0 s h H locs → lv_has ls 6 [(0, .ref x0), (1, .int x1), (2, .int x2)] → W p l e rX10_send s m args below meth c H locs cells slots (MQ below (QQ D cy s0 none r.2) args s 0 0 (fun q => s0 ≤ q)) (F0 m 0 ls [])
set_option maxRecDepth 100000 in
set_option maxHeartbeats 4000000 in
theorem bX10_send_230_body {D : va_G} {cy : Nat → ClassId} {s0 : Nat} {p : Program} {l : Launch} {e : Env} {s : State} {m : MethodId} {args : Array Value} {below : List Frame} {meth : Method} {c : Code} (C : CX D cy s0 p s m args meth c cX10_send 6 RX10 none) (hn : meth.name = "send") {k230 : Nat → Int32 → Int32 → Int32 → Int32 → Hp → Option (Unit × Hp)} (hk230 : ∀ (x0 : Nat) (x1 : Int32) (x3 : Int32) (x4 : Int32) (x5 : Int32) (h : Hp) (r : Unit × Hp), k230 x0 x1 x3 x4 x5 h = some r → pX10_send_230 D cy s0 p l e s m args below meth c r x0 x1 x3 x4 x5 h) : ∀ (x0 : Nat) (x1 : Int32) (x3 : Int32) (x4 : Int32) (x5 : Int32) (h : Hp) (r : Unit × Hp), fX10_send_230_body k230 x0 x1 x3 x4 x5 h = some r → pX10_send_230 D cy s0 p l e s m args below meth c r x0 x1 x3 x4 x5 h := by
  intro x0 x1 x3 x4 x5 h ⟨rv, rh⟩ hf H locs ls cells slots hc hs hw hl
  unfold fX10_send_230_body at hf
  have hx := C.1
  have hb := C.2.1
  refine lv_iload hx hb dX10_send_230 (lv_at hl 4 rfl) ?_
  refine lv_aload_n hx hb dX10_send_232 rfl (lv_at hl 0 rfl) ?_
  obtain ⟨z1, e1, hf⟩ := ob hf
  refine r_gR C hw e1 ck10 rfl (by decide) w984 dX10_send_233 ?_
  cases z1 with
  | none =>
    have hf := on_n hf
    cases hf
  | some a2 =>
    have hf := on_s hf
    refine W.eq (g2 := F0 m 236 ls [.ref a2, .int x5]) rfl ?_
    refine lv_iload hx hb dX10_send_236 (lv_at hl 3 rfl) ?_
    obtain ⟨z3, e3, hf⟩ := ob hf
    refine r_iald C hw e3 dX10_send_238 ?_
    refine lv_bipush (v := (8 : Int32)) hx hb dX10_send_239 (by decide) ?_
    refine lv_imul hx hb dX10_send_241 ?_
    refine lv_icmp_ge (tgt := 282) hx hb dX10_send_242 (by decide) (fun c4 => ?_) (fun c4 => ?_)
    · have hf := ip hf c4
      obtain ⟨rfl, rfl⟩ := sp hf
      exact r_vret C hw rfl (by omega) (by omega) dX10_send_282
    · have hf := ie hf c4
      refine lv_aload_n hx hb dX10_send_245 rfl (lv_at hl 0 rfl) ?_
      obtain ⟨z5, e5, hf⟩ := ob hf
      refine r_gR C hw e5 ck10 rfl (by decide) w986 dX10_send_246 ?_
      cases z5 with
      | none =>
        have hf := on_n hf
        cases hf
      | some a6 =>
        have hf := on_s hf
        refine W.eq (g2 := F0 m 249 ls [.ref a6]) rfl ?_
        refine lv_iload hx hb dX10_send_249 (lv_at hl 3 rfl) ?_
        refine lv_iconst (v := (4 : Int32)) hx hb dX10_send_251 (by decide) ?_
        refine lv_imul hx hb dX10_send_252 ?_
        refine lv_bipush (v := (8 : Int32)) hx hb dX10_send_253 (by decide) ?_
        refine lv_imul hx hb dX10_send_255 ?_
        refine lv_iload hx hb dX10_send_256 (lv_at hl 4 rfl) ?_
        refine lv_iadd hx hb dX10_send_258 ?_
        refine lv_aload_n hx hb dX10_send_259 rfl (lv_at hl 0 rfl) ?_
        obtain ⟨z7, e7, hf⟩ := ob hf
        refine r_gR C hw e7 ck10 rfl (by decide) w976 dX10_send_260 ?_
        cases z7 with
        | none =>
          have hf := on_n hf
          cases hf
        | some a8 =>
          have hf := on_s hf
          refine W.eq (g2 := F0 m 263 ls [.ref a8, .int (((x4 * (4 : Int32)) * (8 : Int32)) + x5), .ref a6]) rfl ?_
          refine lv_aload_n hx hb dX10_send_263 rfl (lv_at hl 0 rfl) ?_
          refine lv_iload_n hx hb dX10_send_264 rfl (lv_at hl 1 rfl) ?_
          refine lv_iload_n hx hb dX10_send_265 rfl (lv_at hl 2 rfl) ?_
          refine lv_iconst (v := (1 : Int32)) hx hb dX10_send_266 (by decide) ?_
          refine lv_iadd hx hb dX10_send_267 ?_
          obtain ⟨kb9, hf⟩ := ig hf
          obtain ⟨z9, h9, e9, hf⟩ := ob2 hf
          refine r_callV C hw (mX10_at e9) kXX10_at ck10 rfl kb9 w1152 w1154 v40 ⟨Nat.le_of_ble_eq_true rfl, Nat.le_of_ble_eq_true rfl⟩ rfl hl.1 (rest := [.ref a8, .int (((x4 * (4 : Int32)) * (8 : Int32)) + x5), .ref a6]) rfl (Nat.le_of_ble_eq_true rfl) dX10_send_268 (mc := 0) (ms := 0) rfl rfl ⟨by show _ + 0 ≤ 0; omega, by show _ + 0 ≤ 0; omega⟩ (fun H locs hw => ?_)
          refine W.eq (g2 := F0 m 271 ls [.int z9, .ref a8, .int (((x4 * (4 : Int32)) * (8 : Int32)) + x5), .ref a6]) rfl ?_
          refine lv_iload hx hb dX10_send_271 (lv_at hl 4 rfl) ?_
          refine lv_iadd hx hb dX10_send_273 ?_
          obtain ⟨z10, e10, hf⟩ := ob hf
          refine r_iald C hw e10 dX10_send_274 ?_
          obtain ⟨h11, e11, hf⟩ := ob hf
          refine r_iast C hw e11 dX10_send_275 (fun H locs hw => ?_)
          refine lv_iinc (v := (x5 + (1 : Int32))) (lv' := [(5, .int (x5 + (1 : Int32))), (0, .ref x0), (1, .int x1), (3, .int x3), (4, .int x4)]) hx hb dX10_send_276 hl (k := 4) rfl rfl (by decide) rfl (fun ls hl => ?_)
          refine lv_goto (tgt := 230) hx hb dX10_send_279 (by decide) ?_
          exact hk230 _ _ _ _ _ _ _ hf _ _ _ _ _ (by omega) (by omega) hw (lv_sub hl [1, 2, 3, 4, 0] rfl)
set_option maxRecDepth 100000 in
set_option maxHeartbeats 4000000 in
theorem bX10_send_230 {D : va_G} {cy : Nat → ClassId} {s0 : Nat} {p : Program} {l : Launch} {e : Env} {s : State} {m : MethodId} {args : Array Value} {below : List Frame} {meth : Method} {c : Code} (C : CX D cy s0 p s m args meth c cX10_send 6 RX10 none) (hn : meth.name = "send") : ∀ (n : Nat) (x0 : Nat) (x1 : Int32) (x3 : Int32) (x4 : Int32) (x5 : Int32) (h : Hp) (r : Unit × Hp), fX10_send_230 n x0 x1 x3 x4 x5 h = some r → pX10_send_230 D cy s0 p l e s m args below meth c r x0 x1 x3 x4 x5 h := by
  intro n
  induction n with
  | zero => intro x0 x1 x3 x4 x5 h r hf; exact absurd hf (fun q => by cases q)
  | succ n ih => exact bX10_send_230_body C hn ih
set_option maxRecDepth 100000 in
set_option maxHeartbeats 4000000 in
theorem bX10_send_93_body {D : va_G} {cy : Nat → ClassId} {s0 : Nat} {p : Program} {l : Launch} {e : Env} {s : State} {m : MethodId} {args : Array Value} {below : List Frame} {meth : Method} {c : Code} (C : CX D cy s0 p s m args meth c cX10_send 6 RX10 none) (hn : meth.name = "send") {k93 : Nat → Int32 → Int32 → Hp → Option (Unit × Hp)} (hk93 : ∀ (x0 : Nat) (x1 : Int32) (x5 : Int32) (h : Hp) (r : Unit × Hp), k93 x0 x1 x5 h = some r → pX10_send_93 D cy s0 p l e s m args below meth c r x0 x1 x5 h) : ∀ (x0 : Nat) (x1 : Int32) (x5 : Int32) (h : Hp) (r : Unit × Hp), fX10_send_93_body k93 x0 x1 x5 h = some r → pX10_send_93 D cy s0 p l e s m args below meth c r x0 x1 x5 h := by
  intro x0 x1 x5 h ⟨rv, rh⟩ hf H locs ls cells slots hc hs hw hl
  unfold fX10_send_93_body at hf
  have hx := C.1
  have hb := C.2.1
  refine lv_iload hx hb dX10_send_93 (lv_at hl 2 rfl) ?_
  refine lv_aload_n hx hb dX10_send_95 rfl (lv_at hl 0 rfl) ?_
  obtain ⟨z1, e1, hf⟩ := ob hf
  refine r_gR C hw e1 ck10 rfl (by decide) w967 dX10_send_96 ?_
  cases z1 with
  | none =>
    have hf := on_n hf
    cases hf
  | some a2 =>
    have hf := on_s hf
    refine W.eq (g2 := F0 m 99 ls [.ref a2, .int x5]) rfl ?_
    refine lv_iload_n hx hb dX10_send_99 rfl (lv_at hl 1 rfl) ?_
    obtain ⟨z3, e3, hf⟩ := ob hf
    refine r_iald C hw e3 dX10_send_100 ?_
    refine lv_iconst (v := (1 : Int32)) hx hb dX10_send_101 (by decide) ?_
    refine lv_iadd hx hb dX10_send_102 ?_
    refine lv_bipush (v := (8 : Int32)) hx hb dX10_send_103 (by decide) ?_
    refine lv_imul hx hb dX10_send_105 ?_
    refine lv_icmp_ge (tgt := 148) hx hb dX10_send_106 (by decide) (fun c4 => ?_) (fun c4 => ?_)
    · have hf := ip hf c4
      refine lv_aload_n hx hb dX10_send_148 rfl (lv_at hl 0 rfl) ?_
      refine lv_dup hx hb dX10_send_149 rfl ?_
      obtain ⟨z5, e5, hf⟩ := ob hf
      refine r_gI C hw e5 ck10 rfl (by decide) w990 dX10_send_150 ?_
      refine lv_iconst (v := (1 : Int32)) hx hb dX10_send_153 (by decide) ?_
      refine lv_iadd hx hb dX10_send_154 ?_
      obtain ⟨h6, e6, hf⟩ := ob hf
      refine r_pI C hw e6 ck10 rfl (by decide) rfl w990 (Or.inl rfl) dX10_send_155 (fun H locs hw => ?_)
      obtain ⟨rfl, rfl⟩ := sp hf
      exact r_vret C hw rfl (by omega) (by omega) dX10_send_158
    · have hf := ie hf c4
      refine lv_aload_n hx hb dX10_send_109 rfl (lv_at hl 0 rfl) ?_
      obtain ⟨z7, e7, hf⟩ := ob hf
      refine r_gR C hw e7 ck10 rfl (by decide) w988 dX10_send_110 ?_
      cases z7 with
      | none =>
        have hf := on_n hf
        cases hf
      | some a8 =>
        have hf := on_s hf
        refine W.eq (g2 := F0 m 113 ls [.ref a8]) rfl ?_
        refine lv_aload_n hx hb dX10_send_113 rfl (lv_at hl 0 rfl) ?_
        obtain ⟨z9, e9, hf⟩ := ob hf
        refine r_gI C hw e9 ck10 rfl (by decide) w990 dX10_send_114 ?_
        refine lv_sipush (v := (1201 : Int32)) hx hb dX10_send_117 (by decide) ?_
        refine lv_imul hx hb dX10_send_120 ?_
        refine lv_bipush (v := (8 : Int32)) hx hb dX10_send_121 (by decide) ?_
        refine lv_imul hx hb dX10_send_123 ?_
        refine lv_iload hx hb dX10_send_124 (lv_at hl 2 rfl) ?_
        refine lv_iadd hx hb dX10_send_126 ?_
        refine lv_aload_n hx hb dX10_send_127 rfl (lv_at hl 0 rfl) ?_
        obtain ⟨z10, e10, hf⟩ := ob hf
        refine r_gR C hw e10 ck10 rfl (by decide) w976 dX10_send_128 ?_
        cases z10 with
        | none =>
          have hf := on_n hf
          cases hf
        | some a11 =>
          have hf := on_s hf
          refine W.eq (g2 := F0 m 131 ls [.ref a11, .int (((z9 * (1201 : Int32)) * (8 : Int32)) + x5), .ref a8]) rfl ?_
          refine lv_aload_n hx hb dX10_send_131 rfl (lv_at hl 0 rfl) ?_
          refine lv_iload_n hx hb dX10_send_132 rfl (lv_at hl 1 rfl) ?_
          refine lv_iconst (v := (0 : Int32)) hx hb dX10_send_133 (by decide) ?_
          obtain ⟨kb12, hf⟩ := ig hf
          obtain ⟨z12, h12, e12, hf⟩ := ob2 hf
          refine r_callV C hw (mX10_at e12) kXX10_at ck10 rfl kb12 w1152 w1154 v40 ⟨Nat.le_of_ble_eq_true rfl, Nat.le_of_ble_eq_true rfl⟩ rfl hl.1 (rest := [.ref a11, .int (((z9 * (1201 : Int32)) * (8 : Int32)) + x5), .ref a8]) rfl (Nat.le_of_ble_eq_true rfl) dX10_send_134 (mc := 0) (ms := 0) rfl rfl ⟨by show _ + 0 ≤ 0; omega, by show _ + 0 ≤ 0; omega⟩ (fun H locs hw => ?_)
          refine W.eq (g2 := F0 m 137 ls [.int z12, .ref a11, .int (((z9 * (1201 : Int32)) * (8 : Int32)) + x5), .ref a8]) rfl ?_
          refine lv_iload hx hb dX10_send_137 (lv_at hl 2 rfl) ?_
          refine lv_iadd hx hb dX10_send_139 ?_
          obtain ⟨z13, e13, hf⟩ := ob hf
          refine r_iald C hw e13 dX10_send_140 ?_
          obtain ⟨h14, e14, hf⟩ := ob hf
          refine r_iast C hw e14 dX10_send_141 (fun H locs hw => ?_)
          refine lv_iinc (v := (x5 + (1 : Int32))) (lv' := [(5, .int (x5 + (1 : Int32))), (0, .ref x0), (1, .int x1)]) hx hb dX10_send_142 hl (k := 2) rfl rfl (by decide) rfl (fun ls hl => ?_)
          refine lv_goto (tgt := 93) hx hb dX10_send_145 (by decide) ?_
          exact hk93 _ _ _ _ _ hf _ _ _ _ _ (by omega) (by omega) hw (lv_sub hl [1, 2, 0] rfl)
set_option maxRecDepth 100000 in
set_option maxHeartbeats 4000000 in
theorem bX10_send_93 {D : va_G} {cy : Nat → ClassId} {s0 : Nat} {p : Program} {l : Launch} {e : Env} {s : State} {m : MethodId} {args : Array Value} {below : List Frame} {meth : Method} {c : Code} (C : CX D cy s0 p s m args meth c cX10_send 6 RX10 none) (hn : meth.name = "send") : ∀ (n : Nat) (x0 : Nat) (x1 : Int32) (x5 : Int32) (h : Hp) (r : Unit × Hp), fX10_send_93 n x0 x1 x5 h = some r → pX10_send_93 D cy s0 p l e s m args below meth c r x0 x1 x5 h := by
  intro n
  induction n with
  | zero => intro x0 x1 x5 h r hf; exact absurd hf (fun q => by cases q)
  | succ n ih => exact bX10_send_93_body C hn ih
set_option maxRecDepth 100000 in
set_option maxHeartbeats 4000000 in
theorem bX10_send {D : va_G} {cy : Nat → ClassId} {s0 : Nat} {p : Program} {l : Launch} {e : Env} {s : State} {m : MethodId} {args : Array Value} {below : List Frame} {meth : Method} {c : Code} (C : CX D cy s0 p s m args meth c cX10_send 6 RX10 none) (hn : meth.name = "send") : ∀ (x0 : Nat) (x1 : Int32) (x2 : Int32) (h : Hp) (r : Unit × Hp), fX10_send x0 x1 x2 h = some r → pX10_send D cy s0 p l e s m args below meth c r x0 x1 x2 h := by
  intro x0 x1 x2 h ⟨rv, rh⟩ hf H locs ls cells slots hc hs hw hl
  unfold fX10_send at hf
  have hx := C.1
  have hb := C.2.1
  refine lv_aload_n hx hb dX10_send_0 rfl (lv_at hl 0 rfl) ?_
  obtain ⟨z1, e1, hf⟩ := ob hf
  refine r_gR C hw e1 ck10 rfl (by decide) w974 dX10_send_1 ?_
  cases z1 with
  | none =>
    have hf := on_n hf
    cases hf
  | some a2 =>
    have hf := on_s hf
    refine W.eq (g2 := F0 m 4 ls [.ref a2]) rfl ?_
    refine lv_iconst (v := (5 : Int32)) hx hb dX10_send_4 (by decide) ?_
    refine lv_iload_n hx hb dX10_send_5 rfl (lv_at hl 1 rfl) ?_
    refine lv_imul hx hb dX10_send_6 ?_
    refine lv_iload_n hx hb dX10_send_7 rfl (lv_at hl 2 rfl) ?_
    refine lv_iadd hx hb dX10_send_8 ?_
    obtain ⟨z3, e3, hf⟩ := ob hf
    refine r_iald C hw e3 dX10_send_9 ?_
    refine lv_iconst (v := (1 : Int32)) hx hb dX10_send_10 (by decide) ?_
    refine lv_isub hx hb dX10_send_11 ?_
    refine lv_istore_n (lv' := [(3, .int (z3 - (1 : Int32))), (0, .ref x0), (1, .int x1), (2, .int x2)]) hx hb dX10_send_12 rfl hl (by decide) rfl (fun ls hl => ?_)
    refine lv_iload_n hx hb dX10_send_13 rfl (lv_at hl 0 rfl) ?_
    refine lv_aload_n hx hb dX10_send_14 rfl (lv_at hl 1 rfl) ?_
    obtain ⟨z4, e4, hf⟩ := ob hf
    refine r_gR C hw e4 ck10 rfl (by decide) w967 dX10_send_15 ?_
    cases z4 with
    | none =>
      have hf := on_n hf
      cases hf
    | some a5 =>
      have hf := on_s hf
      refine W.eq (g2 := F0 m 18 ls [.ref a5, .int (z3 - (1 : Int32))]) rfl ?_
      refine lv_iload_n hx hb dX10_send_18 rfl (lv_at hl 2 rfl) ?_
      obtain ⟨z6, e6, hf⟩ := ob hf
      refine r_iald C hw e6 dX10_send_19 ?_
      refine lv_icmp_ge (tgt := 159) hx hb dX10_send_20 (by decide) (fun c7 => ?_) (fun c7 => ?_)
      · have hf := ip hf c7
        refine lv_aload_n hx hb dX10_send_159 rfl (lv_at hl 1 rfl) ?_
        refine lv_iconst (v := (2 : Int32)) hx hb dX10_send_160 (by decide) ?_
        refine lv_iload_n hx hb dX10_send_161 rfl (lv_at hl 2 rfl) ?_
        refine lv_iload_n hx hb dX10_send_162 rfl (lv_at hl 3 rfl) ?_
        obtain ⟨kb8, hf⟩ := ig hf
        obtain ⟨z8, h8, e8, hf⟩ := ob2 hf
        refine r_callV C hw (mX10_made e8) kXX10_made ck10 rfl kb8 w1144 w1146 v38 ⟨Nat.le_of_ble_eq_true rfl, Nat.le_of_ble_eq_true rfl⟩ rfl hl.1 (rest := []) rfl (Nat.le_of_ble_eq_true rfl) dX10_send_163 (mc := 0) (ms := 0) rfl rfl ⟨by show _ + 0 ≤ 0; omega, by show _ + 0 ≤ 0; omega⟩ (fun H locs hw => ?_)
        refine W.eq (g2 := F0 m 166 ls [.int z8]) rfl ?_
        refine lv_istore (lv' := [(4, .int z8), (3, .int (z3 - (1 : Int32))), (0, .ref x0), (1, .int x1), (2, .int x2)]) hx hb dX10_send_166 hl (by decide) rfl (fun ls hl => ?_)
        refine lv_iload hx hb dX10_send_168 (lv_at hl 0 rfl) ?_
        refine lv_if_ge (tgt := 174) hx hb dX10_send_170 (by decide) (fun c9 => ?_) (fun c9 => ?_)
        · have hf := ip hf c9
          refine lv_aload_n hx hb dX10_send_174 rfl (lv_at hl 2 rfl) ?_
          obtain ⟨z10, e10, hf⟩ := ob hf
          refine r_gR C hw e10 ck10 rfl (by decide) w982 dX10_send_175 ?_
          cases z10 with
          | none =>
            have hf := on_n hf
            cases hf
          | some a11 =>
            have hf := on_s hf
            refine W.eq (g2 := F0 m 178 ls [.ref a11]) rfl ?_
            refine lv_iload hx hb dX10_send_178 (lv_at hl 0 rfl) ?_
            refine lv_iload_n hx hb dX10_send_180 rfl (lv_at hl 1 rfl) ?_
            obtain ⟨h12, e12, hf⟩ := ob hf
            refine r_iast C hw e12 dX10_send_181 (fun H locs hw => ?_)
            refine lv_aload_n hx hb dX10_send_182 rfl (lv_at hl 2 rfl) ?_
            obtain ⟨z13, e13, hf⟩ := ob hf
            refine r_gR C hw e13 ck10 rfl (by decide) w983 dX10_send_183 ?_
            cases z13 with
            | none =>
              have hf := on_n hf
              cases hf
            | some a14 =>
              have hf := on_s hf
              refine W.eq (g2 := F0 m 186 ls [.ref a14]) rfl ?_
              refine lv_iload hx hb dX10_send_186 (lv_at hl 0 rfl) ?_
              refine lv_aload_n hx hb dX10_send_188 rfl (lv_at hl 2 rfl) ?_
              refine lv_iload_n hx hb dX10_send_189 rfl (lv_at hl 3 rfl) ?_
              refine lv_iload_n hx hb dX10_send_190 rfl (lv_at hl 1 rfl) ?_
              obtain ⟨kb15, hf⟩ := ig hf
              obtain ⟨z15, h15, e15, hf⟩ := ob2 hf
              refine r_callV C hw (mX10_termAt e15) kXX10_termAt ck10 rfl kb15 w1148 w1150 v39 ⟨Nat.le_of_ble_eq_true rfl, Nat.le_of_ble_eq_true rfl⟩ rfl hl.1 (rest := [.int z8, .ref a14]) rfl (Nat.le_of_ble_eq_true rfl) dX10_send_191 (mc := 0) (ms := 0) rfl rfl ⟨by show _ + 0 ≤ 0; omega, by show _ + 0 ≤ 0; omega⟩ (fun H locs hw => ?_)
              refine W.eq (g2 := F0 m 194 ls [.int z15, .int z8, .ref a14]) rfl ?_
              obtain ⟨h16, e16, hf⟩ := ob hf
              refine r_iast C hw e16 dX10_send_194 (fun H locs hw => ?_)
              refine lv_aload_n hx hb dX10_send_195 rfl (lv_at hl 2 rfl) ?_
              obtain ⟨z17, e17, hf⟩ := ob hf
              refine r_gR C hw e17 ck10 rfl (by decide) w984 dX10_send_196 ?_
              cases z17 with
              | none =>
                have hf := on_n hf
                cases hf
              | some a18 =>
                have hf := on_s hf
                refine W.eq (g2 := F0 m 199 ls [.ref a18]) rfl ?_
                refine lv_iload hx hb dX10_send_199 (lv_at hl 0 rfl) ?_
                refine lv_iconst (v := (4 : Int32)) hx hb dX10_send_201 (by decide) ?_
                refine lv_aload_n hx hb dX10_send_202 rfl (lv_at hl 2 rfl) ?_
                obtain ⟨z19, e19, hf⟩ := ob hf
                refine r_gR C hw e19 ck10 rfl (by decide) w968 dX10_send_203 ?_
                cases z19 with
                | none =>
                  have hf := on_n hf
                  cases hf
                | some a20 =>
                  have hf := on_s hf
                  refine W.eq (g2 := F0 m 206 ls [.ref a20, .int (4 : Int32), .int z8, .ref a18]) rfl ?_
                  refine lv_iload_n hx hb dX10_send_206 rfl (lv_at hl 3 rfl) ?_
                  obtain ⟨z21, e21, hf⟩ := ob hf
                  refine r_iald C hw e21 dX10_send_207 ?_
                  refine lv_iload_n hx hb dX10_send_208 rfl (lv_at hl 1 rfl) ?_
                  refine lv_isub hx hb dX10_send_209 ?_
                  refine va_mmin hx hb (by rw [C.2.2.1]; exact hl.1.symm) C.2.2.2.1 (C.2.2.2.2.1 _ w1192) (C.2.2.2.2.1 _ w566) (C.2.2.2.2.1 _ w18) (C.2.2.2.2.1 _ w567) (Nat.le_of_ble_eq_true rfl) (Nat.le_of_ble_eq_true rfl) (by show _ ≤ 0; omega) (by show _ ≤ 0; omega) dX10_send_210 ?_
                  refine W.eq (g2 := F0 m 213 ls [.int (mn (4 : Int32) (z21 - (z3 - (1 : Int32)))), .int z8, .ref a18]) rfl ?_
                  obtain ⟨h22, e22, hf⟩ := ob hf
                  refine r_iast C hw e22 dX10_send_213 (fun H locs hw => ?_)
                  refine lv_aload_n hx hb dX10_send_214 rfl (lv_at hl 2 rfl) ?_
                  obtain ⟨z23, e23, hf⟩ := ob hf
                  refine r_gR C hw e23 ck10 rfl (by decide) w985 dX10_send_215 ?_
                  cases z23 with
                  | none =>
                    have hf := on_n hf
                    cases hf
                  | some a24 =>
                    have hf := on_s hf
                    refine W.eq (g2 := F0 m 218 ls [.ref a24]) rfl ?_
                    refine lv_iload hx hb dX10_send_218 (lv_at hl 0 rfl) ?_
                    refine lv_aload_n hx hb dX10_send_220 rfl (lv_at hl 2 rfl) ?_
                    obtain ⟨z25, e25, hf⟩ := ob hf
                    refine r_gR C hw e25 ck10 rfl (by decide) w969 dX10_send_221 ?_
                    cases z25 with
                    | none =>
                      have hf := on_n hf
                      cases hf
                    | some a26 =>
                      have hf := on_s hf
                      refine W.eq (g2 := F0 m 224 ls [.ref a26, .int z8, .ref a24]) rfl ?_
                      refine lv_iload_n hx hb dX10_send_224 rfl (lv_at hl 3 rfl) ?_
                      obtain ⟨z27, e27, hf⟩ := ob hf
                      refine r_iald C hw e27 dX10_send_225 ?_
                      obtain ⟨h28, e28, hf⟩ := ob hf
                      refine r_iast C hw e28 dX10_send_226 (fun H locs hw => ?_)
                      refine lv_iconst (v := (0 : Int32)) hx hb dX10_send_227 (by decide) ?_
                      refine lv_istore (lv' := [(5, .int (0 : Int32)), (4, .int z8), (3, .int (z3 - (1 : Int32))), (0, .ref x0), (1, .int x1), (2, .int x2)]) hx hb dX10_send_228 hl (by decide) rfl (fun ls hl => ?_)
                      exact bX10_send_230 C hn LF _ _ _ _ _ _ _ hf _ _ _ _ _ (by omega) (by omega) hw (lv_sub hl [3, 4, 2, 1, 0] rfl)
        · have hf := ie hf c9
          obtain ⟨rfl, rfl⟩ := sp hf
          exact r_vret C hw rfl (by omega) (by omega) dX10_send_173
      · have hf := ie hf c7
        refine lv_aload_n hx hb dX10_send_23 rfl (lv_at hl 1 rfl) ?_
        obtain ⟨z36, e36, hf⟩ := ob hf
        refine r_gI C hw e36 ck10 rfl (by decide) w990 dX10_send_24 ?_
        refine lv_bipush (v := (60 : Int32)) hx hb dX10_send_27 (by decide) ?_
        refine lv_icmp_ne (tgt := 33) hx hb dX10_send_29 (by decide) (fun c37 => ?_) (fun c37 => ?_)
        · have hf := ie hf c37
          refine lv_aload_n hx hb dX10_send_33 rfl (lv_at hl 1 rfl) ?_
          refine lv_iconst (v := (5 : Int32)) hx hb dX10_send_34 (by decide) ?_
          refine lv_iload_n hx hb dX10_send_35 rfl (lv_at hl 2 rfl) ?_
          refine lv_iload_n hx hb dX10_send_36 rfl (lv_at hl 3 rfl) ?_
          obtain ⟨kb38, hf⟩ := ig hf
          obtain ⟨z38, h38, e38, hf⟩ := ob2 hf
          refine r_callV C hw (mX10_made e38) kXX10_made ck10 rfl kb38 w1144 w1146 v38 ⟨Nat.le_of_ble_eq_true rfl, Nat.le_of_ble_eq_true rfl⟩ rfl hl.1 (rest := []) rfl (Nat.le_of_ble_eq_true rfl) dX10_send_37 (mc := 0) (ms := 0) rfl rfl ⟨by show _ + 0 ≤ 0; omega, by show _ + 0 ≤ 0; omega⟩ (fun H locs hw => ?_)
          refine W.eq (g2 := F0 m 40 ls [.int z38]) rfl ?_
          refine lv_istore (lv' := [(4, .int z38), (3, .int (z3 - (1 : Int32))), (0, .ref x0), (1, .int x1), (2, .int x2)]) hx hb dX10_send_40 hl (by decide) rfl (fun ls hl => ?_)
          refine lv_iload hx hb dX10_send_42 (lv_at hl 0 rfl) ?_
          refine lv_if_ge (tgt := 48) hx hb dX10_send_44 (by decide) (fun c39 => ?_) (fun c39 => ?_)
          · have hf := ip hf c39
            refine lv_aload_n hx hb dX10_send_48 rfl (lv_at hl 2 rfl) ?_
            obtain ⟨z40, e40, hf⟩ := ob hf
            refine r_gR C hw e40 ck10 rfl (by decide) w982 dX10_send_49 ?_
            cases z40 with
            | none =>
              have hf := on_n hf
              cases hf
            | some a41 =>
              have hf := on_s hf
              refine W.eq (g2 := F0 m 52 ls [.ref a41]) rfl ?_
              refine lv_iload hx hb dX10_send_52 (lv_at hl 0 rfl) ?_
              refine lv_aload_n hx hb dX10_send_54 rfl (lv_at hl 2 rfl) ?_
              obtain ⟨z42, e42, hf⟩ := ob hf
              refine r_gR C hw e42 ck10 rfl (by decide) w967 dX10_send_55 ?_
              cases z42 with
              | none =>
                have hf := on_n hf
                cases hf
              | some a43 =>
                have hf := on_s hf
                refine W.eq (g2 := F0 m 58 ls [.ref a43, .int z38, .ref a41]) rfl ?_
                refine lv_iload_n hx hb dX10_send_58 rfl (lv_at hl 3 rfl) ?_
                obtain ⟨z44, e44, hf⟩ := ob hf
                refine r_iald C hw e44 dX10_send_59 ?_
                obtain ⟨h45, e45, hf⟩ := ob hf
                refine r_iast C hw e45 dX10_send_60 (fun H locs hw => ?_)
                refine lv_aload_n hx hb dX10_send_61 rfl (lv_at hl 2 rfl) ?_
                obtain ⟨z46, e46, hf⟩ := ob hf
                refine r_gR C hw e46 ck10 rfl (by decide) w983 dX10_send_62 ?_
                cases z46 with
                | none =>
                  have hf := on_n hf
                  cases hf
                | some a47 =>
                  have hf := on_s hf
                  refine W.eq (g2 := F0 m 65 ls [.ref a47]) rfl ?_
                  refine lv_iload hx hb dX10_send_65 (lv_at hl 0 rfl) ?_
                  refine lv_aload_n hx hb dX10_send_67 rfl (lv_at hl 2 rfl) ?_
                  refine lv_iload_n hx hb dX10_send_68 rfl (lv_at hl 3 rfl) ?_
                  refine lv_aload_n hx hb dX10_send_69 rfl (lv_at hl 2 rfl) ?_
                  obtain ⟨z48, e48, hf⟩ := ob hf
                  refine r_gR C hw e48 ck10 rfl (by decide) w967 dX10_send_70 ?_
                  cases z48 with
                  | none =>
                    have hf := on_n hf
                    cases hf
                  | some a49 =>
                    have hf := on_s hf
                    refine W.eq (g2 := F0 m 73 ls [.ref a49, .int x1, .ref x0, .int z38, .ref a47]) rfl ?_
                    refine lv_iload_n hx hb dX10_send_73 rfl (lv_at hl 3 rfl) ?_
                    obtain ⟨z50, e50, hf⟩ := ob hf
                    refine r_iald C hw e50 dX10_send_74 ?_
                    obtain ⟨kb51, hf⟩ := ig hf
                    obtain ⟨z51, h51, e51, hf⟩ := ob2 hf
                    refine r_callV C hw (mX10_termAt e51) kXX10_termAt ck10 rfl kb51 w1148 w1150 v39 ⟨Nat.le_of_ble_eq_true rfl, Nat.le_of_ble_eq_true rfl⟩ rfl hl.1 (rest := [.int z38, .ref a47]) rfl (Nat.le_of_ble_eq_true rfl) dX10_send_75 (mc := 0) (ms := 0) rfl rfl ⟨by show _ + 0 ≤ 0; omega, by show _ + 0 ≤ 0; omega⟩ (fun H locs hw => ?_)
                    refine W.eq (g2 := F0 m 78 ls [.int z51, .int z38, .ref a47]) rfl ?_
                    obtain ⟨h52, e52, hf⟩ := ob hf
                    refine r_iast C hw e52 dX10_send_78 (fun H locs hw => ?_)
                    refine lv_aload_n hx hb dX10_send_79 rfl (lv_at hl 2 rfl) ?_
                    obtain ⟨z53, e53, hf⟩ := ob hf
                    refine r_gR C hw e53 ck10 rfl (by decide) w989 dX10_send_80 ?_
                    cases z53 with
                    | none =>
                      have hf := on_n hf
                      cases hf
                    | some a54 =>
                      have hf := on_s hf
                      refine W.eq (g2 := F0 m 83 ls [.ref a54]) rfl ?_
                      refine lv_iload hx hb dX10_send_83 (lv_at hl 0 rfl) ?_
                      refine lv_aload_n hx hb dX10_send_85 rfl (lv_at hl 2 rfl) ?_
                      obtain ⟨z55, e55, hf⟩ := ob hf
                      refine r_gI C hw e55 ck10 rfl (by decide) w990 dX10_send_86 ?_
                      obtain ⟨h56, e56, hf⟩ := ob hf
                      refine r_iast C hw e56 dX10_send_89 (fun H locs hw => ?_)
                      refine lv_iconst (v := (0 : Int32)) hx hb dX10_send_90 (by decide) ?_
                      refine lv_istore (lv' := [(5, .int (0 : Int32)), (4, .int z38), (3, .int (z3 - (1 : Int32))), (0, .ref x0), (1, .int x1), (2, .int x2)]) hx hb dX10_send_91 hl (by decide) rfl (fun ls hl => ?_)
                      exact bX10_send_93 C hn LF _ _ _ _ _ hf _ _ _ _ _ (by omega) (by omega) hw (lv_sub hl [3, 4, 0] rfl)
          · have hf := ie hf c39
            obtain ⟨rfl, rfl⟩ := sp hf
            exact r_vret C hw rfl (by omega) (by omega) dX10_send_47
        · have hf := ip hf c37
          obtain ⟨rfl, rfl⟩ := sp hf
          exact r_vret C hw rfl (by omega) (by omega) dX10_send_32
theorem kXX10_send : MK yX10_send cX10_send 6 none 2 := ⟨w1191, w8, by decide +kernel⟩
theorem mX10_send {D : va_G} {cy : Nat → ClassId} {s0 : Nat} {l : Launch} {x0 : Nat} {x1 : Int32} {x2 : Int32} {h : Hp} {v : Unit} {h1 : Hp} (hf : fX10_send x0 x1 x2 h = some (v, h1)) : MT D cy s0 l yX10_send cX10_send 6 none rX10_send [.ref x0, .int x1, .int x2] h none h1 := by
  refine MT.of (by decide +kernel) (Nat.le_of_ble_eq_true rfl) ?_
  intro p e s m below meth c H locs ls C hn hw hl
  exact bX10_send C hn _ _ _ _ _ hf _ _ _ _ _ (Nat.le_of_ble_eq_true rfl) (Nat.le_of_ble_eq_true rfl) hw hl
