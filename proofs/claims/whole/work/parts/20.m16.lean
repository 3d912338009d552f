def fX7_wasThere_22 (x0 : Nat) (x1 : Int32) (h : Hp) : Option (Int32 × Hp) :=
  bd (gL h 7 10 x0) fun z1 => if (lg_cmp (z1 &&& ((1 : Int64) <<< (x1.toInt64 &&& 63))) (0 : Int64)) = 0 then (some ((0 : Int32), h)) else (some ((1 : Int32), h))
def fX7_wasThere (x0 : Nat) (x1 : Int32) (x2 : Int32) (h : Hp) : Option (Int32 × Hp) :=
  if x2 < 0 then (fX7_wasThere_22 x0 x1 h) else (bd (gI h 7 3 x0) fun z2 => if z2 ≤ x2 then (fX7_wasThere_22 x0 x1 h) else (bd (gR h 7 2 x0) fun z4 => onR z4 (none) fun a5 => bd (ldL h 12 a5 x2) fun z6 => bd2 (fX7_isPut z6 h) fun z7 h7 => if z7 = 0 ∨ z7 = 1 then some (z7, h7) else none))
def fX8_init (x0 : Nat) (h : Hp) : Option (Unit × Hp) :=
  bd (mkA h 11 (1024 : Int32) 1024) fun h1 => bd (pR h1 8 0 x0 (some (hZ h))) fun h2 => bd (mkA h2 14 (1201 : Int32) 1201) fun h3 => bd (pR h3 8 1 x0 (some (hZ h2))) fun h4 => some ((), h4)
def fX9_check (x0 : Nat) (h : Hp) : Option (Int32 × Hp) :=
  bd (gR h 9 2 x0) fun z1 => onR z1 (none) fun a2 => bd (gI h 8 2 a2) fun z3 => some (z3, h)
def fX9_init_48_body (k48 : Nat → Nat → Nat → Nat → Int32 → Hp → Option (Unit × Hp)) (x0 : Nat) (x1 : Nat) (x2 : Nat) (x3 : Nat) (x4 : Int32) (h : Hp) : Option (Unit × Hp) :=
  if (5 : Int32) ≤ x4 then (bd (pR h 9 1 x0 (some x1)) fun h2 => bd (pR h2 9 2 x0 (some x2)) fun h3 => some ((), h3)) else (bd (gR h 9 0 x0) fun z4 => onR z4 (none) fun a5 => bd (nwO h 5) fun h6 => bd2 (fX5_init (hZ h) x4 x1 x2 x3 h6) fun _ h7 => bd (stR h7 16 5 a5 x4 (hZ h)) fun h8 => k48 x0 x1 x2 x3 (x4 + (1 : Int32)) h8)
def fX9_init_48 : Nat → Nat → Nat → Nat → Nat → Int32 → Hp → Option (Unit × Hp)
  | 0 => fun _ _ _ _ _ _ => none
  | n + 1 => fX9_init_48_body (fX9_init_48 n)
def fX9_init (x0 : Nat) (h : Hp) : Option (Unit × Hp) :=
  bd (nwO h 3) fun h1 => bd2 (fX3_init (hZ h) h1) fun _ h2 => bd (nwO h2 8) fun h3 => bd2 (fX8_init (hZ h2) h3) fun _ h4 => bd (nwO h4 6) fun h5 => bd (nwO h5 7) fun h6 => bd2 (fX7_init (hZ h5) h6) fun _ h7 => bd2 (fX6_init (hZ h4) (hZ h5) (0 : Int32) (0 : Int32) h7) fun _ h8 => bd (mkA h8 16 (5 : Int32) 5) fun h9 => bd (pR h9 9 0 x0 (some (hZ h8))) fun h10 => fX9_init_48 8 x0 (hZ h) (hZ h2) (hZ h4) (0 : Int32) h10
def fX9_messages (x0 : Nat) (h : Hp) : Option (Int32 × Hp) :=
  bd (gR h 9 1 x0) fun z1 => onR z1 (none) fun a2 => bd (gI h 3 1 a2) fun z3 => some (z3, h)
def fX9_more (x0 : Nat) (x1 : Int32) (x2 : Int32) (x3 : Int32) (x4 : Int32) (h : Hp) : Option (Unit × Hp) :=
  bd (pI h 9 3 x0 x1) fun h1 => bd (pI h1 9 4 x0 x2) fun h2 => bd (pI h2 9 5 x0 x3) fun h3 => bd (pI h3 9 6 x0 x4) fun h4 => some ((), h4)
abbrev rX7_wasThere : Room := { frames := 1, cells := 0, slots := 0, locals := 21 }
abbrev pX7_wasThere_22 (D : va_G) (cy : Nat → ClassId) (s0 : Nat) (p : Program) (l : Launch) (e : Env) (s : State) (m : MethodId) (args : Array Value) (below : List Frame) (meth : Method) (c : Code) (r : Int32 × Hp) (x0 : Nat) (x1 : Int32) (h : Hp) : Prop := ∀ (H : Heap) (locs : List Loc) (ls : Array Slot) (cells slots : Nat), cells + (0) ≤ 0 → slots + (0) ≤ 0 → WS D cy s0 s h H locs → lv_has ls 3 [(0, .ref x0), (1, .int x1)] → W p l e rX7_wasThere s m args below meth c H locs cells slots (MQ below (QQ D cy s0 (some (.int r.1)) r.2) args s 0 0 (fun q => s0 ≤ q)) (F0 m 22 ls [])
abbrev pX7_wasThere (D : va_G) (cy : Nat → ClassId) (s0 : Nat) (p : Program) (l : Launch) (e : Env) (s : State) (m : MethodId) (args : Array Value) (below : List Frame) (meth : Method) (c : Code) (r : Int32 × Hp) (x0 : Nat) (x1 : Int32) (x2 : Int32) (h : Hp) : Prop := ∀ (H : Heap) (locs : List Loc) (ls : Array Slot) (cells slots : Nat), cells + (0) ≤ 0 → slots + (0) ≤ 0 → WS D cy s0 s h H locs → lv_has ls 3 [(0, .ref x0), (1, .int x1), (2, .int x2)] → W p l e rX7_wasThere s m args below meth c H locs cells slots (MQ below (QQ D cy s0 (some (.int r.1)) r.2) args s 0 0 (fun q => s0 ≤ q)) (F0 m 0 ls [])
set_option maxRecDepth 100000 in
set_option maxHeartbeats 4000000 in
theorem bX7_wasThere_22 {D : va_G} {cy : Nat → ClassId} {s0 : Nat} {p : Program} {l : Launch} {e : Env} {s : State} {m : MethodId} {args : Array Value} {below : List Frame} {meth : Method} {c : Code} (C : CX D cy s0 p s m args meth c cX7_wasThere 3 RX7 (some .boolean)) (hn : meth.name = "wasThere") : ∀ (x0 : Nat) (x1 : Int32) (h : Hp) (r : Int32 × Hp), fX7_wasThere_22 x0 x1 h = some r → pX7_wasThere_22 D cy s0 p l e s m args below meth c r x0 x1 h := by
  intro x0 x1 h ⟨rv, rh⟩ hf H locs ls cells slots hc hs hw hl
  unfold fX7_wasThere_22 at hf
  have hx := C.1
  have hb := C.2.1
  refine lv_aload_n hx hb dX7_wasThere_22 rfl (lv_at hl 0 rfl) ?_
  obtain ⟨z1, e1, hf⟩ := ob hf
  refine r_gL C hw e1 ck7 rfl (by decide) w92 dX7_wasThere_23 ?_
  refine lv_lconst (v := (1 : Int64)) hx hb dX7_wasThere_26 rfl ?_
  refine lv_iload_n hx hb dX7_wasThere_27 rfl (lv_at hl 1 rfl) ?_
  refine lv_lshl (v := ((1 : Int64) <<< (x1.toInt64 &&& 63))) hx hb dX7_wasThere_28 rfl ?_
  refine lv_land hx hb dX7_wasThere_29 ?_
  refine lv_lconst (v := (0 : Int64)) hx hb dX7_wasThere_30 rfl ?_
  refine W.lcmp hx hb dX7_wasThere_31 ?_
  refine lv_if_eq (tgt := 39) hx hb dX7_wasThere_32 (by decide) (fun c2 => ?_) (fun c2 => ?_)
  · have hf := ip hf c2
    refine lv_iconst (v := (0 : Int32)) hx hb dX7_wasThere_39 (by decide) ?_
    obtain ⟨rfl, rfl⟩ := sp hf
    exact r_iret C hw rfl (nz (Or.inl rfl)) (by omega) (by omega) dX7_wasThere_40
  · have hf := ie hf c2
    refine lv_iconst (v := (1 : Int32)) hx hb dX7_wasThere_35 (by decide) ?_
    refine lv_goto (tgt := 40) hx hb dX7_wasThere_36 (by decide) ?_
    obtain ⟨rfl, rfl⟩ := sp hf
    exact r_iret C hw rfl (nz (Or.inr rfl)) (by omega) (by omega) dX7_wasThere_40
set_option maxRecDepth 100000 in
set_option maxHeartbeats 4000000 in
theorem bX7_wasThere {D : va_G} {cy : Nat → ClassId} {s0 : Nat} {p : Program} {l : Launch} {e : Env} {s : State} {m : MethodId} {args : Array Value} {below : List Frame} {meth : Method} {c : Code} (C : CX D cy s0 p s m args meth c cX7_wasThere 3 RX7 (some .boolean)) (hn : meth.name = "wasThere") : ∀ (x0 : Nat) (x1 : Int32) (x2 : Int32) (h : Hp) (r : Int32 × Hp), fX7_wasThere x0 x1 x2 h = some r → pX7_wasThere D cy s0 p l e s m args below meth c r x0 x1 x2 h := by
  intro x0 x1 x2 h ⟨rv, rh⟩ hf H locs ls cells slots hc hs hw hl
  unfold fX7_wasThere at hf
  have hx := C.1
  have hb := C.2.1
  refine lv_iload_n hx hb dX7_wasThere_0 rfl (lv_at hl 2 rfl) ?_
  refine lv_if_lt (tgt := 22) hx hb dX7_wasThere_1 (by decide) (fun c1 => ?_) (fun c1 => ?_)
  · have hf := ip hf c1
    exact bX7_wasThere_22 C hn _ _ _ _ hf _ _ _ _ _ (by omega) (by omega) hw (lv_sub hl [0, 1] rfl)
  · have hf := ie hf c1
    refine lv_iload_n hx hb dX7_wasThere_4 rfl (lv_at hl 2 rfl) ?_
    refine lv_aload_n hx hb dX7_wasThere_5 rfl (lv_at hl 0 rfl) ?_
    obtain ⟨z2, e2, hf⟩ := ob hf
    refine r_gI C hw e2 ck7 rfl (by decide) w84 dX7_wasThere_6 ?_
    refine lv_icmp_ge (tgt := 22) hx hb dX7_wasThere_9 (by decide) (fun c3 => ?_) (fun c3 => ?_)
    · have hf := ip hf c3
      exact bX7_wasThere_22 C hn _ _ _ _ hf _ _ _ _ _ (by omega) (by omega) hw (lv_sub hl [0, 1] rfl)
    · have hf := ie hf c3
      refine lv_aload_n hx hb dX7_wasThere_12 rfl (lv_at hl 0 rfl) ?_
      obtain ⟨z4, e4, hf⟩ := ob hf
      refine r_gR C hw e4 ck7 rfl (by decide) w82 dX7_wasThere_13 ?_
      cases z4 with
      | none =>
        have hf := on_n hf
        cases hf
      | some a5 =>
        have hf := on_s hf
        refine W.eq (g2 := F0 m 16 ls [.ref a5]) rfl ?_
        refine lv_iload_n hx hb dX7_wasThere_16 rfl (lv_at hl 2 rfl) ?_
        obtain ⟨z6, e6, hf⟩ := ob hf
        refine r_lald C hw e6 dX7_wasThere_17 ?_
        obtain ⟨z7, h7, e7, hf⟩ := ob2 hf
        refine r_callS C hw (mX7_isPut e7) kXX7_isPut w717 w718 ⟨Nat.le_of_ble_eq_true rfl, Nat.le_of_ble_eq_true rfl⟩ rfl hl.1 (rest := []) rfl (Nat.le_of_ble_eq_true rfl) dX7_wasThere_18 (mc := 0) (ms := 0) rfl rfl ⟨by show _ + 0 ≤ 0; omega, by show _ + 0 ≤ 0; omega⟩ (fun H locs hw => ?_)
        refine W.eq (g2 := F0 m 21 ls [.int z7]) rfl ?_
        obtain ⟨gz, hf⟩ := ig hf
        obtain ⟨rfl, rfl⟩ := sp hf
        exact r_iret C hw rfl (nz gz) (by omega) (by omega) dX7_wasThere_21
theorem kXX7_wasThere : MK yX7_wasThere cX7_wasThere 3 (some .boolean) 2 := ⟨w884, w5, by decide +kernel⟩
theorem mX7_wasThere {D : va_G} {cy : Nat → ClassId} {s0 : Nat} {l : Launch} {x0 : Nat} {x1 : Int32} {x2 : Int32} {h : Hp} {v : Int32} {h1 : Hp} (hf : fX7_wasThere x0 x1 x2 h = some (v, h1)) : MT D cy s0 l yX7_wasThere cX7_wasThere 3 (some .boolean) rX7_wasThere [.ref x0, .int x1, .int x2] h (some (.int v)) h1 := by
  refine MT.of (by decide +kernel) (Nat.le_of_ble_eq_true rfl) ?_
  intro p e s m below meth c H locs ls C hn hw hl
  exact bX7_wasThere C hn _ _ _ _ _ hf _ _ _ _ _ (Nat.le_of_ble_eq_true rfl) (Nat.le_of_ble_eq_true rfl) hw hl
abbrev rX8_init : Room := { frames := 1, cells := 2, slots := 2225, locals := 24 }
abbrev pX8_init (D : va_G) (cy : Nat → ClassId) (s0 : Nat) (p : Program) (l : Launch) (e : Env) (s : State) (m : MethodId) (args : Array Value) (below : List Frame) (meth : Method) (c : Code) (r : Unit × Hp) (x0 : Nat) (h : Hp) : Prop := ∀ (H : Heap) (locs : List Loc) (ls : Array Slot) (cells slots : Nat), cells + (2) ≤ 2 → slots + (2225) ≤ 2225 → WS D cy s0 s h H locs → lv_has ls 1 [(0, .ref x0)] → W p l e rX8_init s m args below meth c H locs cells slots (MQ below (QQ D cy s0 none r.2) args s 2 2225 (fun q => s0 ≤ q)) (F0 m 0 ls [])
set_option maxRecDepth 100000 in
set_option maxHeartbeats 4000000 in
theorem bX8_init {D : va_G} {cy : Nat → ClassId} {s0 : Nat} {p : Program} {l : Launch} {e : Env} {s : State} {m : MethodId} {args : Array Value} {below : List Frame} {meth : Method} {c : Code} (C : CX D cy s0 p s m args meth c cX8_init 1 RX8 none) (hn : meth.name = "<init>") : ∀ (x0 : Nat) (h : Hp) (r : Unit × Hp), fX8_init x0 h = some r → pX8_init D cy s0 p l e s m args below meth c r x0 h := by
  intro x0 h ⟨rv, rh⟩ hf H locs ls cells slots hc hs hw hl
  unfold fX8_init at hf
  have hx := C.1
  have hb := C.2.1
  refine lv_aload_n hx hb dX8_init_0 rfl (lv_at hl 0 rfl) ?_
  refine W.objInit hx hb C.2.2.2.1 (C.2.2.2.2.1 _ w55) (C.2.2.2.2.1 _ w28) (C.2.2.2.2.1 _ w29) rfl (by rw [C.2.2.1]; exact hl.1) rfl dX8_init_1 (Nat.le_of_ble_eq_true rfl) (Nat.le_of_ble_eq_true rfl) ?_
  refine W.eq (g2 := F0 m 4 ls []) rfl ?_
  refine lv_aload_n hx hb dX8_init_4 rfl (lv_at hl 0 rfl) ?_
  refine lv_sipush (v := (1024 : Int32)) hx hb dX8_init_5 (by decide) ?_
  obtain ⟨h1, e1, hf⟩ := ob hf
  refine r_newI C hw e1 w69 (by show _ + 1 ≤ 2; omega) (by show _ + 1024 ≤ 2225; omega) (by decide) dX8_init_8 (fun H hw => ?_)
  obtain ⟨h2, e2, hf⟩ := ob hf
  refine r_pR C hw e2 rfl ck8 rfl (by decide) rfl rfl w58 (Or.inr ⟨rfl, hn, rfl⟩) dX8_init_10 (fun H locs hw => ?_)
  refine lv_aload_n hx hb dX8_init_13 rfl (lv_at hl 0 rfl) ?_
  refine lv_sipush (v := (1201 : Int32)) hx hb dX8_init_14 (by decide) ?_
  obtain ⟨h3, e3, hf⟩ := ob hf
  refine r_newQ C hw e3 (by decide) rfl w56 C.2.2.2.2.2.2.1.2.1 (by show _ + 1 ≤ 2; omega) (by show _ + 1201 ≤ 2225; omega) (by decide) dX8_init_17 (fun H hw => ?_)
  obtain ⟨h4, e4, hf⟩ := ob hf
  refine r_pR C hw e4 rfl ck8 rfl (by decide) rfl rfl w59 (Or.inr ⟨rfl, hn, rfl⟩) dX8_init_20 (fun H locs hw => ?_)
  obtain ⟨rfl, rfl⟩ := sp hf
  exact r_vret C hw rfl (by omega) (by omega) dX8_init_23
theorem kXX8_init : MK yX8_init cX8_init 1 none 0 := ⟨w54, w3, by decide +kernel⟩
theorem mX8_init {D : va_G} {cy : Nat → ClassId} {s0 : Nat} {l : Launch} {x0 : Nat} {h : Hp} {v : Unit} {h1 : Hp} (hf : fX8_init x0 h = some (v, h1)) : MT D cy s0 l yX8_init cX8_init 1 none rX8_init [.ref x0] h none h1 := by
  refine MT.of (by decide +kernel) (Nat.le_of_ble_eq_true rfl) ?_
  intro p e s m below meth c H locs ls C hn hw hl
  exact bX8_init C hn _ _ _ hf _ _ _ _ _ (Nat.le_of_ble_eq_true rfl) (Nat.le_of_ble_eq_true rfl) hw hl
abbrev rX9_check : Room := { frames := 0, cells := 0, slots := 0, locals := 0 }
abbrev pX9_check (D : va_G) (cy : Nat → ClassId) (s0 : Nat) (p : Program) (l : Launch) (e : Env) (s : State) (m : MethodId) (args : Array Value) (below : List Frame) (meth : Method) (c : Code) (r : Int32 × Hp) (x0 : Nat) (h : Hp) : Prop := ∀ (H : Heap) (locs : List Loc) (ls : Array Slot) (cells slots : Nat), cells + (0) ≤ 0 → slots + (0) ≤ 0 → WS D cy s0 s h H locs → lv_has ls 1 [(0, .ref x0)] → W p l e rX9_check s m args below meth c H locs cells slots (MQ below (QQ D cy s0 (some (.int r.1)) r.2) args s 0 0 (fun q => s0 ≤ q)) (F0 m 0 ls [])
set_option maxRecDepth 100000 in
set_option maxHeartbeats 4000000 in
theorem bX9_check {D : va_G} {cy : Nat → ClassId} {s0 : Nat} {p : Program} {l : Launch} {e : Env} {s : State} {m : MethodId} {args : Array Value} {below : List Frame} {meth : Method} {c : Code} (C : CX D cy s0 p s m args meth c cX9_check 1 RX9 (some .int)) (hn : meth.name = "check") : ∀ (x0 : Nat) (h : Hp) (r : Int32 × Hp), fX9_check x0 h = some r → pX9_check D cy s0 p l e s m args below meth c r x0 h := by
  intro x0 h ⟨rv, rh⟩ hf H locs ls cells slots hc hs hw hl
  unfold fX9_check at hf
  have hx := C.1
  have hb := C.2.1
  refine lv_aload_n hx hb dX9_check_0 rfl (lv_at hl 0 rfl) ?_
  obtain ⟨z1, e1, hf⟩ := ob hf
  refine r_gR C hw e1 ck9 rfl (by decide) w240 dX9_check_1 ?_
  cases z1 with
  | none =>
    have hf := on_n hf
    cases hf
  | some a2 =>
    have hf := on_s hf
    refine W.eq (g2 := F0 m 4 ls [.ref a2]) rfl ?_
    obtain ⟨z3, e3, hf⟩ := ob hf
    refine r_gI C hw e3 ck8 rfl (by decide) w61 dX9_check_4 ?_
    obtain ⟨rfl, rfl⟩ := sp hf
    exact r_iret C hw rfl rfl (by omega) (by omega) dX9_check_7
theorem kXX9_check : MK yX9_check cX9_check 1 (some .int) 0 := ⟨w271, w1, by decide +kernel⟩
theorem mX9_check {D : va_G} {cy : Nat → ClassId} {s0 : Nat} {l : Launch} {x0 : Nat} {h : Hp} {v : Int32} {h1 : Hp} (hf : fX9_check x0 h = some (v, h1)) : MT D cy s0 l yX9_check cX9_check 1 (some .int) rX9_check [.ref x0] h (some (.int v)) h1 := by
  refine MT.of (by decide +kernel) (Nat.le_of_ble_eq_true rfl) ?_
  intro p e s m below meth c H locs ls C hn hw hl
  exact bX9_check C hn _ _ _ hf _ _ _ _ _ (Nat.le_of_ble_eq_true rfl) (Nat.le_of_ble_eq_true rfl) hw hl
abbrev rX9_init : Room := { frames := 3, cells := 151, slots := 35837, locals := 69 }
abbrev pX9_init_48 (D : va_G) (cy : Nat → ClassId) (s0 : Nat) (p : Program) (l : Launch) (e : Env) (s : State) (m : MethodId) (args : Array Value) (below : List Frame) (meth : Method) (c : Code) (n : Nat) (r : Unit × Hp) (x0 : Nat) (x1 : Nat) (x2 : Nat) (x3 : Nat) (x4 : Int32) (h : Hp) : Prop := ∀ (H : Heap) (locs : List Loc) (ls : Array Slot) (cells slots : Nat), cells + (15 * n + 15) ≤ 151 → slots + (3303 * n + 3303) ≤ 35837 → WS D cy s0 s h H locs → lv_has ls 5 [(0, .ref x0), (1, .ref x1), (2, .ref x2), (3, .ref x3), (4, .int x4)] → W p l e rX9_init s m args below meth c H locs cells slots (MQ below (QQ D cy s0 none r.2) args s 151 35837 (fun q => s0 ≤ q)) (F0 m 48 ls [])
abbrev pX9_init (D : va_G) (cy : Nat → ClassId) (s0 : Nat) (p : Program) (l : Launch) (e : Env) (s : State) (m : MethodId) (args : Array Value) (below : List Frame) (meth : Method) (c : Code) (r : Unit × Hp) (x0 : Nat) (h : Hp) : Prop := ∀ (H : Heap) (locs : List Loc) (ls : Array Slot) (cells slots : Nat), cells + (151) ≤ 151 → slots + (35837) ≤ 35837 → WS D cy s0 s h H locs → lv_has ls 5 [(0, .ref x0)] → W p l e rX9_init s m args below meth c H locs cells slots (MQ below (QQ D cy s0 none r.2) args s 151 35837 (fun q => s0 ≤ q)) (F0 m 0 ls [])
set_option maxRecDepth 100000 in
set_option maxHeartbeats 4000000 in
theorem bX9_init_48_body {D : va_G} {cy : Nat → ClassId} {s0 : Nat} {p : Program} {l : Launch} {e : Env} {s : State} {m : MethodId} {args : Array Value} {below : List Frame} {meth : Method} {c : Code} (C : CX D cy s0 p s m args meth c cX9_init 5 RX9 none) (hn : meth.name = "<init>") (n : Nat) {k48 : Nat → Nat → Nat → Nat → Int32 → Hp → Option (Unit × Hp)} (hk48 : ∀ (x0 : Nat) (x1 : Nat) (x2 : Nat) (x3 : Nat) (x4 : Int32) (h : Hp) (r : Unit × Hp), k48 x0 x1 x2 x3 x4 h = some r → pX9_init_48 D cy s0 p l e s m args below meth c n r x0 x1 x2 x3 x4 h) : ∀ (x0 : Nat) (x1 : Nat) (x2 : Nat) (x3 : Nat) (x4 : Int32) (h : Hp) (r : Unit × Hp), fX9_init_48_body k48 x0 x1 x2 x3 x4 h = some r → pX9_init_48 D cy s0 p l e s m args below meth c (n + 1) r x0 x1 x2 x3 x4 h := by
  intro x0 x1 x2 x3 x4 h ⟨rv, rh⟩ hf H locs ls cells slots hc hs hw hl
  unfold fX9_init_48_body at hf
  have hx := C.1
  have hb := C.2.1
  refine lv_iload hx hb dX9_init_48 (lv_at hl 4 rfl) ?_
  refine lv_iconst (v := (5 : Int32)) hx hb dX9_init_50 (by decide) ?_
  refine lv_icmp_ge (tgt := 79) hx hb dX9_init_51 (by decide) (fun c1 => ?_) (fun c1 => ?_)
  · have hf := ip hf c1
    refine lv_aload_n hx hb dX9_init_79 rfl (lv_at hl 0 rfl) ?_
    refine lv_aload_n hx hb dX9_init_80 rfl (lv_at hl 1 rfl) ?_
    obtain ⟨h2, e2, hf⟩ := ob hf
    refine r_pR C hw e2 rfl ck9 rfl (by decide) rfl rfl w239 (Or.inr ⟨rfl, hn, rfl⟩) dX9_init_81 (fun H locs hw => ?_)
    refine lv_aload_n hx hb dX9_init_84 rfl (lv_at hl 0 rfl) ?_
    refine lv_aload_n hx hb dX9_init_85 rfl (lv_at hl 2 rfl) ?_
    obtain ⟨h3, e3, hf⟩ := ob hf
    refine r_pR C hw e3 rfl ck9 rfl (by decide) rfl rfl w240 (Or.inr ⟨rfl, hn, rfl⟩) dX9_init_86 (fun H locs hw => ?_)
    obtain ⟨rfl, rfl⟩ := sp hf
    exact r_vret C hw rfl (by omega) (by omega) dX9_init_89
  · have hf := ie hf c1
    refine lv_aload_n hx hb dX9_init_54 rfl (lv_at hl 0 rfl) ?_
    obtain ⟨z4, e4, hf⟩ := ob hf
    refine r_gR C hw e4 ck9 rfl (by decide) w238 dX9_init_55 ?_
    cases z4 with
    | none =>
      have hf := on_n hf
      cases hf
    | some a5 =>
      have hf := on_s hf
      refine W.eq (g2 := F0 m 58 ls [.ref a5]) rfl ?_
      refine lv_iload hx hb dX9_init_58 (lv_at hl 4 rfl) ?_
      obtain ⟨h6, e6, hf⟩ := ob hf
      refine r_newN C hw e6 ck5 w146 (by show _ + 1 ≤ 151; omega) (by show _ + 14 ≤ 35837; omega) dX9_init_60 (fun H hw => ?_)
      refine lv_dup hx hb dX9_init_63 rfl ?_
      refine lv_iload hx hb dX9_init_64 (lv_at hl 4 rfl) ?_
      refine lv_aload_n hx hb dX9_init_66 rfl (lv_at hl 1 rfl) ?_
      refine lv_aload_n hx hb dX9_init_67 rfl (lv_at hl 2 rfl) ?_
      refine lv_aload_n hx hb dX9_init_68 rfl (lv_at hl 3 rfl) ?_
      obtain ⟨z7, h7, e7, hf⟩ := ob2 hf
      refine r_callI C hw (mX5_init e7) kXX5_init rfl w149 w150 ⟨Nat.le_of_ble_eq_true rfl, Nat.le_of_ble_eq_true rfl⟩ rfl hl.1 (rest := [.ref (hZ h), .int x4, .ref a5]) rfl (Nat.le_of_ble_eq_true rfl) dX9_init_69 (mc := 14) (ms := 3289) rfl rfl ⟨by show _ + 14 ≤ 151; omega, by show _ + 3289 ≤ 35837; omega⟩ (fun H locs hw => ?_)
      refine W.eq (g2 := F0 m 72 ls [.ref (hZ h), .int x4, .ref a5]) rfl ?_
      obtain ⟨h8, e8, hf⟩ := ob hf
      refine r_aast C hw e8 (by decide) ck5 rfl dX9_init_72 (fun H locs hw => ?_)
      refine lv_iinc (v := (x4 + (1 : Int32))) (lv' := [(4, .int (x4 + (1 : Int32))), (0, .ref x0), (1, .ref x1), (2, .ref x2), (3, .ref x3)]) hx hb dX9_init_73 hl (k := 4) rfl rfl (by decide) rfl (fun ls hl => ?_)
      refine lv_goto (tgt := 48) hx hb dX9_init_76 (by decide) ?_
      exact hk48 _ _ _ _ _ _ _ hf _ _ _ _ _ (by omega) (by omega) hw (lv_sub hl [1, 2, 3, 4, 0] rfl)
set_option maxRecDepth 100000 in
set_option maxHeartbeats 4000000 in
theorem bX9_init_48 {D : va_G} {cy : Nat → ClassId} {s0 : Nat} {p : Program} {l : Launch} {e : Env} {s : State} {m : MethodId} {args : Array Value} {below : List Frame} {meth : Method} {c : Code} (C : CX D cy s0 p s m args meth c cX9_init 5 RX9 none) (hn : meth.name = "<init>") : ∀ (n : Nat) (x0 : Nat) (x1 : Nat) (x2 : Nat) (x3 : Nat) (x4 : Int32) (h : Hp) (r : Unit × Hp), fX9_init_48 n x0 x1 x2 x3 x4 h = some r → pX9_init_48 D cy s0 p l e s m args below meth c n r x0 x1 x2 x3 x4 h := by
  intro n
  induction n with
  | zero => intro x0 x1 x2 x3 x4 h r hf; exact absurd hf (fun q => by cases q)
  | succ n ih => exact bX9_init_48_body C hn n ih
set_option maxRecDepth 100000 in
set_option maxHeartbeats 4000000 in
theorem bX9_init {D : va_G} {cy : Nat → ClassId} {s0 : Nat} {p : Program} {l : Launch} {e : Env} {s : State} {m : MethodId} {args : Array Value} {below : List Frame} {meth : Method} {c : Code} (C : CX D cy s0 p s m args meth c cX9_init 5 RX9 none) (hn : meth.name = "<init>") : ∀ (x0 : Nat) (h : Hp) (r : Unit × Hp), fX9_init x0 h = some r → pX9_init D cy s0 p l e s m args below meth c r x0 h := by
  intro x0 h ⟨rv, rh⟩ hf H locs ls cells slots hc hs hw hl
  unfold fX9_init at hf
  have hx := C.1
  have hb := C.2.1
  refine lv_aload_n hx hb dX9_init_0 rfl (lv_at hl 0 rfl) ?_
  refine W.objInit hx hb C.2.2.2.1 (C.2.2.2.2.1 _ w27) (C.2.2.2.2.1 _ w28) (C.2.2.2.2.1 _ w29) rfl (by rw [C.2.2.1]; exact hl.1) rfl dX9_init_1 (Nat.le_of_ble_eq_true rfl) (Nat.le_of_ble_eq_true rfl) ?_
  refine W.eq (g2 := F0 m 4 ls []) rfl ?_
  obtain ⟨h1, e1, hf⟩ := ob hf
  refine r_newN C hw e1 ck3 w30 (by show _ + 1 ≤ 151; omega) (by show _ + 3 ≤ 35837; omega) dX9_init_4 (fun H hw => ?_)
  refine lv_dup hx hb dX9_init_7 rfl ?_
  obtain ⟨z2, h2, e2, hf⟩ := ob2 hf
  refine r_callIN C hw (mX3_init e2) kXX3_init rfl nw32 w33 ⟨Nat.le_of_ble_eq_true rfl, Nat.le_of_ble_eq_true rfl⟩ rfl hl.1 (rest := [.ref (hZ h)]) rfl (Nat.le_of_ble_eq_true rfl) dX9_init_8 (mc := 1) (ms := 3000) rfl rfl ⟨by show _ + 1 ≤ 151; omega, by show _ + 3000 ≤ 35837; omega⟩ (fun H locs hw => ?_)
  refine W.eq (g2 := F0 m 11 ls [.ref (hZ h)]) rfl ?_
  refine lv_astore_n (lv' := [(1, .ref (hZ h)), (0, .ref x0)]) hx hb dX9_init_11 rfl hl (by decide) rfl (fun ls hl => ?_)
  obtain ⟨h3, e3, hf⟩ := ob hf
  refine r_newN C hw e3 ck8 w50 (by show _ + 1 ≤ 151; omega) (by show _ + 3 ≤ 35837; omega) dX9_init_12 (fun H hw => ?_)
  refine lv_dup hx hb dX9_init_15 rfl ?_
  obtain ⟨z4, h4, e4, hf⟩ := ob2 hf
  refine r_callIN C hw (mX8_init e4) kXX8_init rfl nw52 w53 ⟨Nat.le_of_ble_eq_true rfl, Nat.le_of_ble_eq_true rfl⟩ rfl hl.1 (rest := [.ref (hZ h2)]) rfl (Nat.le_of_ble_eq_true rfl) dX9_init_16 (mc := 2) (ms := 2225) rfl rfl ⟨by show _ + 2 ≤ 151; omega, by show _ + 2225 ≤ 35837; omega⟩ (fun H locs hw => ?_)
  refine W.eq (g2 := F0 m 19 ls [.ref (hZ h2)]) rfl ?_
  refine lv_astore_n (lv' := [(2, .ref (hZ h2)), (1, .ref (hZ h)), (0, .ref x0)]) hx hb dX9_init_19 rfl hl (by decide) rfl (fun ls hl => ?_)
  obtain ⟨h5, e5, hf⟩ := ob hf
  refine r_newN C hw e5 ck6 w70 (by show _ + 1 ≤ 151; omega) (by show _ + 3 ≤ 35837; omega) dX9_init_20 (fun H hw => ?_)
  refine lv_dup hx hb dX9_init_23 rfl ?_
  obtain ⟨h6, e6, hf⟩ := ob hf
  refine r_newN C hw e6 ck7 w72 (by show _ + 1 ≤ 151; omega) (by show _ + 14 ≤ 35837; omega) dX9_init_24 (fun H hw => ?_)
  refine lv_dup hx hb dX9_init_27 rfl ?_
  obtain ⟨z7, h7, e7, hf⟩ := ob2 hf
  refine r_callIN C hw (mX7_init e7) kXX7_init rfl nw74 w75 ⟨Nat.le_of_ble_eq_true rfl, Nat.le_of_ble_eq_true rfl⟩ rfl hl.1 (rest := [.ref (hZ h5), .ref (hZ h4), .ref (hZ h4)]) rfl (Nat.le_of_ble_eq_true rfl) dX9_init_28 (mc := 8) (ms := 857) rfl rfl ⟨by show _ + 8 ≤ 151; omega, by show _ + 857 ≤ 35837; omega⟩ (fun H locs hw => ?_)
  refine W.eq (g2 := F0 m 31 ls [.ref (hZ h5), .ref (hZ h4), .ref (hZ h4)]) rfl ?_
  refine lv_iconst (v := (0 : Int32)) hx hb dX9_init_31 (by decide) ?_
  refine lv_iconst (v := (0 : Int32)) hx hb dX9_init_32 (by decide) ?_
  obtain ⟨z8, h8, e8, hf⟩ := ob2 hf
  refine r_callI C hw (mX6_init e8) kXX6_init rfl w126 w127 ⟨Nat.le_of_ble_eq_true rfl, Nat.le_of_ble_eq_true rfl⟩ rfl hl.1 (rest := [.ref (hZ h4)]) rfl (Nat.le_of_ble_eq_true rfl) dX9_init_33 (mc := 0) (ms := 0) rfl rfl ⟨by show _ + 0 ≤ 151; omega, by show _ + 0 ≤ 35837; omega⟩ (fun H locs hw => ?_)
  refine W.eq (g2 := F0 m 36 ls [.ref (hZ h4)]) rfl ?_
  refine lv_astore_n (lv' := [(3, .ref (hZ h4)), (2, .ref (hZ h2)), (1, .ref (hZ h)), (0, .ref x0)]) hx hb dX9_init_36 rfl hl (by decide) rfl (fun ls hl => ?_)
  refine lv_aload_n hx hb dX9_init_37 rfl (lv_at hl 3 rfl) ?_
  refine lv_iconst (v := (5 : Int32)) hx hb dX9_init_38 (by decide) ?_
  obtain ⟨h9, e9, hf⟩ := ob hf
  refine r_newQ C hw e9 (by decide) rfl w146 C.2.2.2.2.2.2.1.2.2.2 (by show _ + 1 ≤ 151; omega) (by show _ + 5 ≤ 35837; omega) (by decide) dX9_init_39 (fun H hw => ?_)
  obtain ⟨h10, e10, hf⟩ := ob hf
  refine r_pR C hw e10 rfl ck9 rfl (by decide) rfl rfl w238 (Or.inr ⟨rfl, hn, rfl⟩) dX9_init_42 (fun H locs hw => ?_)
  refine lv_iconst (v := (0 : Int32)) hx hb dX9_init_45 (by decide) ?_
  refine lv_istore (lv' := [(4, .int (0 : Int32)), (3, .ref (hZ h4)), (2, .ref (hZ h2)), (1, .ref (hZ h)), (0, .ref x0)]) hx hb dX9_init_46 hl (by decide) rfl (fun ls hl => ?_)
  exact bX9_init_48 C hn 8 _ _ _ _ _ _ _ hf _ _ _ _ _ (by omega) (by omega) hw (lv_sub hl [4, 3, 2, 1, 0] rfl)
theorem kXX9_init : MK yX9_init cX9_init 5 none 0 := ⟨w26, w1, by decide +kernel⟩
theorem mX9_init {D : va_G} {cy : Nat → ClassId} {s0 : Nat} {l : Launch} {x0 : Nat} {h : Hp} {v : Unit} {h1 : Hp} (hf : fX9_init x0 h = some (v, h1)) : MT D cy s0 l yX9_init cX9_init 5 none rX9_init [.ref x0] h none h1 := by
  refine MT.of (by decide +kernel) (Nat.le_of_ble_eq_true rfl) ?_
  intro p e s m below meth c H locs ls C hn hw hl
  exact bX9_init C hn _ _ _ hf _ _ _ _ _ (Nat.le_of_ble_eq_true rfl) (Nat.le_of_ble_eq_true rfl) hw hl
abbrev rX9_messages : Room := { frames := 0, cells := 0, slots := 0, locals := 0 }
abbrev pX9_messages (D : va_G) (cy : Nat → ClassId) (s0 : Nat) (p : Program) (l : Launch) (e : Env) (s : State) (m : MethodId) (args : Array Value) (below : List Frame) (meth : Method) (c : Code) (r : Int32 × Hp) (x0 : Nat) (h : Hp) : Prop := ∀ (H : Heap) (locs : List Loc) (ls : Array Slot) (cells slots : Nat), cells + (0) ≤ 0 → slots + (0) ≤ 0 → WS D cy s0 s h H locs → lv_has ls 1 [(0, .ref x0)] → W p l e rX9_messages s m args below meth c H locs cells slots (MQ below (QQ D cy s0 (some (.int r.1)) r.2) args s 0 0 (fun q => s0 ≤ q)) (F0 m 0 ls [])
set_option maxRecDepth 100000 in
set_option maxHeartbeats 4000000 in
theorem bX9_messages {D : va_G} {cy : Nat → ClassId} {s0 : Nat} {p : Program} {l : Launch} {e : Env} {s : State} {m : MethodId} {args : Array Value} {below : List Frame} {meth : Method} {c : Code} (C : CX D cy s0 p s m args meth c cX9_messages 1 RX9 (some .int)) (hn : meth.name = "messages") : ∀ (x0 : Nat) (h : Hp) (r : Int32 × Hp), fX9_messages x0 h = some r → pX9_messages D cy s0 p l e s m args below meth c r x0 h := by
  intro x0 h ⟨rv, rh⟩ hf H locs ls cells slots hc hs hw hl
  unfold fX9_messages at hf
  have hx := C.1
  have hb := C.2.1
  refine lv_aload_n hx hb dX9_messages_0 rfl (lv_at hl 0 rfl) ?_
  obtain ⟨z1, e1, hf⟩ := ob hf
  refine r_gR C hw e1 ck9 rfl (by decide) w239 dX9_messages_1 ?_
  cases z1 with
  | none =>
    have hf := on_n hf
    cases hf
  | some a2 =>
    have hf := on_s hf
    refine W.eq (g2 := F0 m 4 ls [.ref a2]) rfl ?_
    obtain ⟨z3, e3, hf⟩ := ob hf
    refine r_gI C hw e3 ck3 rfl (by decide) w41 dX9_messages_4 ?_
    obtain ⟨rfl, rfl⟩ := sp hf
    exact r_iret C hw rfl rfl (by omega) (by omega) dX9_messages_7
theorem kXX9_messages : MK yX9_messages cX9_messages 1 (some .int) 0 := ⟨w267, w1, by decide +kernel⟩
theorem mX9_messages {D : va_G} {cy : Nat → ClassId} {s0 : Nat} {l : Launch} {x0 : Nat} {h : Hp} {v : Int32} {h1 : Hp} (hf : fX9_messages x0 h = some (v, h1)) : MT D cy s0 l yX9_messages cX9_messages 1 (some .int) rX9_messages [.ref x0] h (some (.int v)) h1 := by
  refine MT.of (by decide +kernel) (Nat.le_of_ble_eq_true rfl) ?_
  intro p e s m below meth c H locs ls C hn hw hl
  exact bX9_messages C hn _ _ _ hf _ _ _ _ _ (Nat.le_of_ble_eq_true rfl) (Nat.le_of_ble_eq_true rfl) hw hl
abbrev rX9_more : Room := { frames := 0, cells := 0, slots := 0, locals := 0 }
abbrev pX9_more (D : va_G) (cy : Nat → ClassId) (s0 : Nat) (p : Program) (l : Launch) (e : Env) (s : State) (m : MethodId) (args : Array Value) (below : List Frame) (meth : Method) (c : Code) (r : Unit × Hp) (x0 : Nat) (x1 : Int32) (x2 : Int32) (x3 : Int32) (x4 : Int32) (h : Hp) : Prop := ∀ (H : Heap) (locs : List Loc) (ls : Array Slot) (cells slots : Nat), cells + (0) ≤ 0 → slots + (0) ≤ 0 → WS D cy s0 s h H locs → lv_has ls 5 [(0, .ref x0), (1, .int x1), (2, .int x2), (3, .int x3), (4, .int x4)] → W p l e rX9_more s m args below meth c H locs cells slots (MQ below (QQ D cy s0 none r.2) args s 0 0 (fun q => s0 ≤ q)) (F0 m 0 ls [])
set_option maxRecDepth 100000 in
set_option maxHeartbeats 4000000 in
theorem bX9_more {D : va_G} {cy : Nat → ClassId} {s0 : Nat} {p : Program} {l : Launch} {e : Env} {s : State} {m : MethodId} {args : Array Value} {below : List Frame} {meth : Method} {c : Code} (C : CX D cy s0 p s m args meth c cX9_more 5 RX9 none) (hn : meth.name = "more") : ∀ (x0 : Nat) (x1 : Int32) (x2 : Int32) (x3 : Int32) (x4 : Int32) (h : Hp) (r : Unit × Hp), fX9_more x0 x1 x2 x3 x4 h = some r → pX9_more D cy s0 p l e s m args below meth c r x0 x1 x2 x3 x4 h := by
  intro x0 x1 x2 x3 x4 h ⟨rv, rh⟩ hf H locs ls cells slots hc hs hw hl
  unfold fX9_more at hf
  have hx := C.1
  have hb := C.2.1
  refine lv_aload_n hx hb dX9_more_0 rfl (lv_at hl 0 rfl) ?_
  refine lv_iload_n hx hb dX9_more_1 rfl (lv_at hl 1 rfl) ?_
  obtain ⟨h1, e1, hf⟩ := ob hf
  refine r_pI C hw e1 ck9 rfl (by decide) rfl w241 (Or.inl rfl) dX9_more_2 (fun H locs hw => ?_)
  refine lv_aload_n hx hb dX9_more_5 rfl (lv_at hl 0 rfl) ?_
  refine lv_iload_n hx hb dX9_more_6 rfl (lv_at hl 2 rfl) ?_
  obtain ⟨h2, e2, hf⟩ := ob hf
  refine r_pI C hw e2 ck9 rfl (by decide) rfl w242 (Or.inl rfl) dX9_more_7 (fun H locs hw => ?_)
  refine lv_aload_n hx hb dX9_more_10 rfl (lv_at hl 0 rfl) ?_
  refine lv_iload_n hx hb dX9_more_11 rfl (lv_at hl 3 rfl) ?_
  obtain ⟨h3, e3, hf⟩ := ob hf
  refine r_pI C hw e3 ck9 rfl (by decide) rfl w243 (Or.inl rfl) dX9_more_12 (fun H locs hw => ?_)
  refine lv_aload_n hx hb dX9_more_15 rfl (lv_at hl 0 rfl) ?_
  refine lv_iload hx hb dX9_more_16 (lv_at hl 4 rfl) ?_
  obtain ⟨h4, e4, hf⟩ := ob hf
  refine r_pI C hw e4 ck9 rfl (by decide) rfl w244 (Or.inl rfl) dX9_more_18 (fun H locs hw => ?_)
  obtain ⟨rfl, rfl⟩ := sp hf
  exact r_vret C hw rfl (by omega) (by omega) dX9_more_21
theorem kXX9_more : MK yX9_more cX9_more 5 none 4 := ⟨w263, w1, by decide +kernel⟩
theorem mX9_more {D : va_G} {cy : Nat → ClassId} {s0 : Nat} {l : Launch} {x0 : Nat} {x1 : Int32} {x2 : Int32} {x3 : Int32} {x4 : Int32} {h : Hp} {v : Unit} {h1 : Hp} (hf : fX9_more x0 x1 x2 x3 x4 h = some (v, h1)) : MT D cy s0 l yX9_more cX9_more 5 none rX9_more [.ref x0, .int x1, .int x2, .int x3, .int x4] h none h1 := by
  refine MT.of (by decide +kernel) (Nat.le_of_ble_eq_true rfl) ?_
  intro p e s m below meth c H locs ls C hn hw hl
  exact bX9_more C hn _ _ _ _ _ _ _ hf _ _ _ _ _ (Nat.le_of_ble_eq_true rfl) (Nat.le_of_ble_eq_true rfl) hw hl
