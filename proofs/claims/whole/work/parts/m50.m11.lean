abbrev rX7_remove : Room := { frames := 1, cells := 0, slots := 0, locals := 22 }
abbrev pX7_remove (D : va_G) (cy : Nat → ClassId) (s0 : Nat) (p : Program) (l : Launch) (e : Env) (s : State) (m : MethodId) (args : Array Value) (below : List Frame) (meth : Method) (c : Code) (r : Int32 × Hp) (x0 : Nat) (x1 : Int32) (h : Hp) : Prop := ∀ (H : Heap) (locs : List Loc) (ls : Array Slot) (cells slots : Nat), cells + (0) ≤ 0 → slots + (0) ≤ 0 → WS D cy s0 s h H locs → lv_has ls 2 [(0, .ref x0), (1, .int x1)] → W p l e rX7_remove s m args below meth c H locs cells slots (MQ below (QQ D cy s0 (some (.int r.1)) r.2) args s 0 0 (fun q => s0 ≤ q)) (F0 m 0 ls [])
set_option maxRecDepth 100000 in
set_option maxHeartbeats 4000000 in
theorem bX7_remove {D : va_G} {cy : Nat → ClassId} {s0 : Nat} {p : Program} {l : Launch} {e : Env} {s : State} {m : MethodId} {args : Array Value} {below : List Frame} {meth : Method} {c : Code} (C : CX D cy s0 p s m args meth c cX7_remove 2 RX7 (some .int)) (hn : meth.name = "remove") : ∀ (x0 : Nat) (x1 : Int32) (h : Hp) (r : Int32 × Hp), fX7_remove x0 x1 h = some r → pX7_remove D cy s0 p l e s m args below meth c r x0 x1 h := by
  intro x0 x1 h ⟨rv, rh⟩ hf H locs ls cells slots hc hs hw hl
  unfold fX7_remove at hf
  have hx := C.1
  have hb := C.2.1
  refine lv_iload_n hx hb dX7_remove_0 rfl (lv_at hl 1 rfl) ?_
  obtain ⟨z1, h1, e1, hf⟩ := ob2 hf
  refine r_callSN C hw (mX9_isKey e1) kXX9_isKey nw656 w657 ⟨Nat.le_of_ble_eq_true rfl, Nat.le_of_ble_eq_true rfl⟩ rfl hl.1 (rest := []) rfl (Nat.le_of_ble_eq_true rfl) dX7_remove_1 (mc := 0) (ms := 0) rfl rfl ⟨by show _ + 0 ≤ 0; omega, by show _ + 0 ≤ 0; omega⟩ (fun H locs hw => ?_)
  refine W.eq (g2 := F0 m 4 ls [.int z1]) rfl ?_
  refine lv_if_eq (tgt := 16) hx hb dX7_remove_4 (by decide) (fun c2 => ?_) (fun c2 => ?_)
  · have hf := ip hf c2
    refine lv_iconst (v := (0 : Int32)) hx hb dX7_remove_16 (by decide) ?_
    obtain ⟨rfl, rfl⟩ := sp hf
    exact r_iret C hw rfl rfl (by omega) (by omega) dX7_remove_17
  · have hf := ie hf c2
    refine lv_aload_n hx hb dX7_remove_7 rfl (lv_at hl 0 rfl) ?_
    obtain ⟨z3, e3, hf⟩ := ob hf
    refine r_gR C hw e3 ck7 rfl (by decide) w87 dX7_remove_8 ?_
    cases z3 with
    | none =>
      have hf := on_n hf
      cases hf
    | some a4 =>
      have hf := on_s hf
      refine W.eq (g2 := F0 m 11 ls [.ref a4]) rfl ?_
      refine lv_iload_n hx hb dX7_remove_11 rfl (lv_at hl 1 rfl) ?_
      obtain ⟨z5, e5, hf⟩ := ob hf
      refine r_iald C hw e5 dX7_remove_12 ?_
      refine lv_if_ne (tgt := 18) hx hb dX7_remove_13 (by decide) (fun c6 => ?_) (fun c6 => ?_)
      · have hf := ie hf c6
        refine lv_aload_n hx hb dX7_remove_18 rfl (lv_at hl 0 rfl) ?_
        obtain ⟨z7, e7, hf⟩ := ob hf
        refine r_gR C hw e7 ck7 rfl (by decide) w87 dX7_remove_19 ?_
        cases z7 with
        | none =>
          have hf := on_n hf
          cases hf
        | some a8 =>
          have hf := on_s hf
          refine W.eq (g2 := F0 m 22 ls [.ref a8]) rfl ?_
          refine lv_iload_n hx hb dX7_remove_22 rfl (lv_at hl 1 rfl) ?_
          refine lv_iconst (v := (0 : Int32)) hx hb dX7_remove_23 (by decide) ?_
          obtain ⟨h9, e9, hf⟩ := ob hf
          refine r_iast C hw e9 dX7_remove_24 (fun H locs hw => ?_)
          refine lv_aload_n hx hb dX7_remove_25 rfl (lv_at hl 0 rfl) ?_
          obtain ⟨z10, e10, hf⟩ := ob hf
          refine r_gR C hw e10 ck7 rfl (by decide) w88 dX7_remove_26 ?_
          cases z10 with
          | none =>
            have hf := on_n hf
            cases hf
          | some a11 =>
            have hf := on_s hf
            refine W.eq (g2 := F0 m 29 ls [.ref a11]) rfl ?_
            refine lv_iload_n hx hb dX7_remove_29 rfl (lv_at hl 1 rfl) ?_
            refine lv_iconst (v := (0 : Int32)) hx hb dX7_remove_30 (by decide) ?_
            obtain ⟨h12, e12, hf⟩ := ob hf
            refine r_iast C hw e12 dX7_remove_31 (fun H locs hw => ?_)
            refine lv_aload_n hx hb dX7_remove_32 rfl (lv_at hl 0 rfl) ?_
            obtain ⟨z13, e13, hf⟩ := ob hf
            refine r_gR C hw e13 ck7 rfl (by decide) w89 dX7_remove_33 ?_
            cases z13 with
            | none =>
              have hf := on_n hf
              cases hf
            | some a14 =>
              have hf := on_s hf
              refine W.eq (g2 := F0 m 36 ls [.ref a14]) rfl ?_
              refine lv_iload_n hx hb dX7_remove_36 rfl (lv_at hl 1 rfl) ?_
              refine lv_iconst (v := (0 : Int32)) hx hb dX7_remove_37 (by decide) ?_
              obtain ⟨h15, e15, hf⟩ := ob hf
              refine r_iast C hw e15 dX7_remove_38 (fun H locs hw => ?_)
              refine lv_aload_n hx hb dX7_remove_39 rfl (lv_at hl 0 rfl) ?_
              obtain ⟨z16, e16, hf⟩ := ob hf
              refine r_gR C hw e16 ck7 rfl (by decide) w90 dX7_remove_40 ?_
              cases z16 with
              | none =>
                have hf := on_n hf
                cases hf
              | some a17 =>
                have hf := on_s hf
                refine W.eq (g2 := F0 m 43 ls [.ref a17]) rfl ?_
                refine lv_iload_n hx hb dX7_remove_43 rfl (lv_at hl 1 rfl) ?_
                refine lv_iconst (v := (0 : Int32)) hx hb dX7_remove_44 (by decide) ?_
                obtain ⟨h18, e18, hf⟩ := ob hf
                refine r_iast C hw e18 dX7_remove_45 (fun H locs hw => ?_)
                refine lv_aload_n hx hb dX7_remove_46 rfl (lv_at hl 0 rfl) ?_
                obtain ⟨z19, e19, hf⟩ := ob hf
                refine r_gR C hw e19 ck7 rfl (by decide) w91 dX7_remove_47 ?_
                cases z19 with
                | none =>
                  have hf := on_n hf
                  cases hf
                | some a20 =>
                  have hf := on_s hf
                  refine W.eq (g2 := F0 m 50 ls [.ref a20]) rfl ?_
                  refine lv_iload_n hx hb dX7_remove_50 rfl (lv_at hl 1 rfl) ?_
                  refine lv_iconst (v := (0 : Int32)) hx hb dX7_remove_51 (by decide) ?_
                  obtain ⟨h21, e21, hf⟩ := ob hf
                  refine r_iast C hw e21 dX7_remove_52 (fun H locs hw => ?_)
                  refine lv_aload_n hx hb dX7_remove_53 rfl (lv_at hl 0 rfl) ?_
                  refine lv_ldc2 (v := (-1 : Int64)) hx hb C.2.2.2.1 (C.2.2.2.2.1 _ w677) dX7_remove_54 ?_
                  refine lv_ldc2 (v := (64 : Int64)) hx hb C.2.2.2.1 (C.2.2.2.2.1 _ w678) dX7_remove_57 ?_
                  refine lv_aload_n hx hb dX7_remove_60 rfl (lv_at hl 0 rfl) ?_
                  obtain ⟨z22, e22, hf⟩ := ob hf
                  refine r_gI C hw e22 ck7 rfl (by decide) w78 dX7_remove_61 ?_
                  refine lv_iconst (v := (1 : Int32)) hx hb dX7_remove_64 (by decide) ?_
                  refine lv_iadd hx hb dX7_remove_65 ?_
                  refine lv_i2l (v := ((z22 + (1 : Int32)).toInt64)) hx hb dX7_remove_66 rfl ?_
                  refine lv_lmul hx hb dX7_remove_67 ?_
                  refine lv_iload_n hx hb dX7_remove_68 rfl (lv_at hl 1 rfl) ?_
                  refine lv_i2l (v := (x1.toInt64)) hx hb dX7_remove_69 rfl ?_
                  refine lv_ladd hx hb dX7_remove_70 ?_
                  refine lv_lsub hx hb dX7_remove_71 ?_
                  obtain ⟨kb23, hf⟩ := ig hf
                  obtain ⟨z23, h23, e23, hf⟩ := ob2 hf
                  refine r_callV C hw (mX7_addEvent e23) kXX7_addEvent ck7 rfl kb23 w660 w662 v22 ⟨Nat.le_of_ble_eq_true rfl, Nat.le_of_ble_eq_true rfl⟩ rfl hl.1 (rest := []) rfl (Nat.le_of_ble_eq_true rfl) dX7_remove_72 (mc := 0) (ms := 0) rfl rfl ⟨by show _ + 0 ≤ 0; omega, by show _ + 0 ≤ 0; omega⟩ (fun H locs hw => ?_)
                  refine W.eq (g2 := F0 m 75 ls []) rfl ?_
                  refine lv_iconst (v := (1 : Int32)) hx hb dX7_remove_75 (by decide) ?_
                  obtain ⟨rfl, rfl⟩ := sp hf
                  exact r_iret C hw rfl rfl (by omega) (by omega) dX7_remove_76
      · have hf := ip hf c6
        refine lv_iconst (v := (0 : Int32)) hx hb dX7_remove_16 (by decide) ?_
        obtain ⟨rfl, rfl⟩ := sp hf
        exact r_iret C hw rfl rfl (by omega) (by omega) dX7_remove_17
theorem kXX7_remove : MK yX7_remove cX7_remove 2 (some .int) 1 := ⟨w676, w5, by decide +kernel⟩
theorem mX7_remove {D : va_G} {cy : Nat → ClassId} {s0 : Nat} {l : Launch} {x0 : Nat} {x1 : Int32} {h : Hp} {v : Int32} {h1 : Hp} (hf : fX7_remove x0 x1 h = some (v, h1)) : MT D cy s0 l yX7_remove cX7_remove 2 (some .int) rX7_remove [.ref x0, .int x1] h (some (.int v)) h1 := by
  refine MT.of (by decide +kernel) (Nat.le_of_ble_eq_true rfl) ?_
  intro p e s m below meth c H locs ls C hn hw hl
  exact bX7_remove C hn _ _ _ _ hf _ _ _ _ _ (Nat.le_of_ble_eq_true rfl) (Nat.le_of_ble_eq_true rfl) hw hl
abbrev rX7_removeRange : Room := { frames := 2, cells := 0, slots := 0, locals := 43 }
abbrev pX7_removeRange_37 (D : va_G) (cy : Nat → ClassId) (s0 : Nat) (p : Program) (l : Launch) (e : Env) (s : State) (m : MethodId) (args : Array Value) (below : List Frame) (meth : Method) (c : Code) (r : Int32 × Hp) (x0 : Nat) (x3 : Int32) (h : Hp) : Prop := ∀ (H : Heap) (locs : List Loc) (ls : Array Slot) (cells slots : Nat), cells + (0) ≤ 0 → slots + (0) ≤ 0 → WS D cy s0 s h H locs → lv_has ls 5 [(0, .ref x0), (3, .int x3)] → W p l e rX7_removeRange s m args below meth c H locs cells slots (MQ below (QQ D cy s0 (some (.int r.1)) r.2) args s 0 0 (fun q => s0 ≤ q)) (F0 m 37 ls [])
abbrev pX7_removeRange_9 (D : va_G) (cy : Nat → ClassId) (s0 : Nat) (p : Program) (l : Launch) (e : Env) (s : State) (m : MethodId) (args : Array Value) (below : List Frame) (meth : Method) (c : Code) (r : Int32 × Hp) (x0 : Nat) (x2 : Int32) (x3 : Int32) (x4 : Int32) (h : Hp) : Prop := ∀ (H : Heap) (locs : List Loc) (ls : Array Slot) (cells slots : Nat), cells + (0) ≤ 0 → slots + (0) ≤ 0 → WS D cy s0 s h H locs → lv_has ls 5 [(0, .ref x0), (2, .int x2), (3, .int x3), (4, .int x4)] → W p l e rX7_removeRange s m args below meth c H locs cells slots (MQ below (QQ D cy s0 (some (.int r.1)) r.2) args s 0 0 (fun q => s0 ≤ q)) (F0 m 9 ls [])
abbrev pX7_removeRange (D : va_G) (cy : Nat → ClassId) (s0 : Nat) (p : Program) (l : Launch) (e : Env) (s : State) (m : MethodId) (args : Array Value) (below : List Frame) (meth : Method) (c : Code) (r : Int32 × Hp) (x0 : Nat) (x1 : Int32) (x2 : Int32) (h : Hp) : Prop := ∀ (H : Heap) (locs : List Loc) (ls : Array Slot) (cells slots : Nat), cells + (0) ≤ 0 → slots + (0) ≤ 0 → WS D cy s0 s h H locs → lv_has ls 5 [(0, .ref x0), (1, .int x1), (2, .int x2)] → W p l e rX7_removeRange s m args below meth c H locs cells slots (MQ below (QQ D cy s0 (some (.int r.1)) r.2) args s 0 0 (fun q => s0 ≤ q)) (F0 m 0 ls [])
set_option maxRecDepth 100000 in
set_option maxHeartbeats 4000000 in
theorem bX7_removeRange_37 {D : va_G} {cy : Nat → ClassId} {s0 : Nat} {p : Program} {l : Launch} {e : Env} {s : State} {m : MethodId} {args : Array Value} {below : List Frame} {meth : Method} {c : Code} (C : CX D cy s0 p s m args meth c cX7_removeRange 5 RX7 (some .int)) (hn : meth.name = "removeRange") : ∀ (x0 : Nat) (x3 : Int32) (h : Hp) (r : Int32 × Hp), fX7_removeRange_37 x0 x3 h = some r → pX7_removeRange_37 D cy s0 p l e s m args below meth c r x0 x3 h := by
  intro x0 x3 h ⟨rv, rh⟩ hf H locs ls cells slots hc hs hw hl
  unfold fX7_removeRange_37 at hf
  have hx := C.1
  have hb := C.2.1
  refine lv_aload_n hx hb dX7_removeRange_37 rfl (lv_at hl 0 rfl) ?_
  refine lv_iload_n hx hb dX7_removeRange_38 rfl (lv_at hl 1 rfl) ?_
  obtain ⟨kb1, hf⟩ := ig hf
  obtain ⟨z1, h1, e1, hf⟩ := ob2 hf
  refine r_callV C hw (mX7_endRevision e1) kXX7_endRevision ck7 rfl kb1 w664 w666 v23 ⟨Nat.le_of_ble_eq_true rfl, Nat.le_of_ble_eq_true rfl⟩ rfl hl.1 (rest := []) rfl (Nat.le_of_ble_eq_true rfl) dX7_removeRange_39 (mc := 0) (ms := 0) rfl rfl ⟨by show _ + 0 ≤ 0; omega, by show _ + 0 ≤ 0; omega⟩ (fun H locs hw => ?_)
  refine W.eq (g2 := F0 m 42 ls []) rfl ?_
  refine lv_iload_n hx hb dX7_removeRange_42 rfl (lv_at hl 1 rfl) ?_
  obtain ⟨rfl, rfl⟩ := sp hf
  exact r_iret C hw rfl rfl (by omega) (by omega) dX7_removeRange_43
set_option maxRecDepth 100000 in
set_option maxHeartbeats 4000000 in
theorem bX7_removeRange_9_body {D : va_G} {cy : Nat → ClassId} {s0 : Nat} {p : Program} {l : Launch} {e : Env} {s : State} {m : MethodId} {args : Array Value} {below : List Frame} {meth : Method} {c : Code} (C : CX D cy s0 p s m args meth c cX7_removeRange 5 RX7 (some .int)) (hn : meth.name = "removeRange") {k9 : Nat → Int32 → Int32 → Int32 → Hp → Option (Int32 × Hp)} (hk9 : ∀ (x0 : Nat) (x2 : Int32) (x3 : Int32) (x4 : Int32) (h : Hp) (r : Int32 × Hp), k9 x0 x2 x3 x4 h = some r → pX7_removeRange_9 D cy s0 p l e s m args below meth c r x0 x2 x3 x4 h) : ∀ (x0 : Nat) (x2 : Int32) (x3 : Int32) (x4 : Int32) (h : Hp) (r : Int32 × Hp), fX7_removeRange_9_body k9 x0 x2 x3 x4 h = some r → pX7_removeRange_9 D cy s0 p l e s m args below meth c r x0 x2 x3 x4 h := by
  intro x0 x2 x3 x4 h ⟨rv, rh⟩ hf H locs ls cells slots hc hs hw hl
  unfold fX7_removeRange_9_body at hf
  have hx := C.1
  have hb := C.2.1
  refine lv_iload hx hb dX7_removeRange_9 (lv_at hl 3 rfl) ?_
  refine lv_iload_n hx hb dX7_removeRange_11 rfl (lv_at hl 1 rfl) ?_
  refine lv_icmp_gt (tgt := 37) hx hb dX7_removeRange_12 (by decide) (fun c1 => ?_) (fun c1 => ?_)
  · have hf := ip hf c1
    exact bX7_removeRange_37 C hn _ _ _ _ hf _ _ _ _ _ (by omega) (by omega) hw (lv_sub hl [0, 2] rfl)
  · have hf := ie hf c1
    refine lv_iload hx hb dX7_removeRange_15 (lv_at hl 3 rfl) ?_
    refine lv_bipush (v := (64 : Int32)) hx hb dX7_removeRange_17 (by decide) ?_
    refine lv_icmp_ge (tgt := 37) hx hb dX7_removeRange_19 (by decide) (fun c2 => ?_) (fun c2 => ?_)
    · have hf := ip hf c2
      exact bX7_removeRange_37 C hn _ _ _ _ hf _ _ _ _ _ (by omega) (by omega) hw (lv_sub hl [0, 2] rfl)
    · have hf := ie hf c2
      refine lv_iload_n hx hb dX7_removeRange_22 rfl (lv_at hl 2 rfl) ?_
      refine lv_aload_n hx hb dX7_removeRange_23 rfl (lv_at hl 0 rfl) ?_
      refine lv_iload hx hb dX7_removeRange_24 (lv_at hl 3 rfl) ?_
      obtain ⟨kb3, hf⟩ := ig hf
      obtain ⟨z3, h3, e3, hf⟩ := ob2 hf
      refine r_callV C hw (mX7_remove e3) kXX7_remove ck7 rfl kb3 w673 w675 v25 ⟨Nat.le_of_ble_eq_true rfl, Nat.le_of_ble_eq_true rfl⟩ rfl hl.1 (rest := [.int x3]) rfl (Nat.le_of_ble_eq_true rfl) dX7_removeRange_26 (mc := 0) (ms := 0) rfl rfl ⟨by show _ + 0 ≤ 0; omega, by show _ + 0 ≤ 0; omega⟩ (fun H locs hw => ?_)
      refine W.eq (g2 := F0 m 29 ls [.int z3, .int x3]) rfl ?_
      refine lv_iadd hx hb dX7_removeRange_29 ?_
      refine lv_istore_n (lv' := [(3, .int (x3 + z3)), (0, .ref x0), (2, .int x2), (4, .int x4)]) hx hb dX7_removeRange_30 rfl hl (by decide) rfl (fun ls hl => ?_)
      refine lv_iinc (v := (x4 + (1 : Int32))) (lv' := [(4, .int (x4 + (1 : Int32))), (3, .int (x3 + z3)), (0, .ref x0), (2, .int x2)]) hx hb dX7_removeRange_31 hl (k := 3) rfl rfl (by decide) rfl (fun ls hl => ?_)
      refine lv_goto (tgt := 9) hx hb dX7_removeRange_34 (by decide) ?_
      exact hk9 _ _ _ _ _ _ hf _ _ _ _ _ (by omega) (by omega) hw (lv_sub hl [2, 3, 1, 0] rfl)
set_option maxRecDepth 100000 in
set_option maxHeartbeats 4000000 in
theorem bX7_removeRange_9 {D : va_G} {cy : Nat → ClassId} {s0 : Nat} {p : Program} {l : Launch} {e : Env} {s : State} {m : MethodId} {args : Array Value} {below : List Frame} {meth : Method} {c : Code} (C : CX D cy s0 p s m args meth c cX7_removeRange 5 RX7 (some .int)) (hn : meth.name = "removeRange") : ∀ (n : Nat) (x0 : Nat) (x2 : Int32) (x3 : Int32) (x4 : Int32) (h : Hp) (r : Int32 × Hp), fX7_removeRange_9 n x0 x2 x3 x4 h = some r → pX7_removeRange_9 D cy s0 p l e s m args below meth c r x0 x2 x3 x4 h := by
  intro n
  induction n with
  | zero => intro x0 x2 x3 x4 h r hf; exact absurd hf (fun q => by cases q)
  | succ n ih => exact bX7_removeRange_9_body C hn ih
set_option maxRecDepth 100000 in
set_option maxHeartbeats 4000000 in
theorem bX7_removeRange {D : va_G} {cy : Nat → ClassId} {s0 : Nat} {p : Program} {l : Launch} {e : Env} {s : State} {m : MethodId} {args : Array Value} {below : List Frame} {meth : Method} {c : Code} (C : CX D cy s0 p s m args meth c cX7_removeRange 5 RX7 (some .int)) (hn : meth.name = "removeRange") : ∀ (x0 : Nat) (x1 : Int32) (x2 : Int32) (h : Hp) (r : Int32 × Hp), fX7_removeRange x0 x1 x2 h = some r → pX7_removeRange D cy s0 p l e s m args below meth c r x0 x1 x2 h := by
  intro x0 x1 x2 h ⟨rv, rh⟩ hf H locs ls cells slots hc hs hw hl
  unfold fX7_removeRange at hf
  have hx := C.1
  have hb := C.2.1
  refine lv_iconst (v := (0 : Int32)) hx hb dX7_removeRange_0 (by decide) ?_
  refine lv_istore_n (lv' := [(3, .int (0 : Int32)), (0, .ref x0), (1, .int x1), (2, .int x2)]) hx hb dX7_removeRange_1 rfl hl (by decide) rfl (fun ls hl => ?_)
  refine lv_iload_n hx hb dX7_removeRange_2 rfl (lv_at hl 2 rfl) ?_
  refine lv_iconst (v := (0 : Int32)) hx hb dX7_removeRange_3 (by decide) ?_
  refine va_mmax hx hb (by rw [C.2.2.1]; exact hl.1.symm) C.2.2.2.1 (C.2.2.2.2.1 _ w672) (C.2.2.2.2.1 _ w569) (C.2.2.2.2.1 _ w18) (C.2.2.2.2.1 _ w570) (Nat.le_of_ble_eq_true rfl) (Nat.le_of_ble_eq_true rfl) (by show _ ≤ 0; omega) (by show _ ≤ 0; omega) dX7_removeRange_4 ?_
  refine W.eq (g2 := F0 m 7 ls [.int (mx x1 (0 : Int32))]) rfl ?_
  refine lv_istore (lv' := [(4, .int (mx x1 (0 : Int32))), (3, .int (0 : Int32)), (0, .ref x0), (1, .int x1), (2, .int x2)]) hx hb dX7_removeRange_7 hl (by decide) rfl (fun ls hl => ?_)
  exact bX7_removeRange_9 C hn LF _ _ _ _ _ _ hf _ _ _ _ _ (by omega) (by omega) hw (lv_sub hl [2, 4, 1, 0] rfl)
theorem kXX7_removeRange : MK yX7_removeRange cX7_removeRange 5 (some .int) 2 := ⟨w671, w5, by decide +kernel⟩
theorem mX7_removeRange {D : va_G} {cy : Nat → ClassId} {s0 : Nat} {l : Launch} {x0 : Nat} {x1 : Int32} {x2 : Int32} {h : Hp} {v : Int32} {h1 : Hp} (hf : fX7_removeRange x0 x1 x2 h = some (v, h1)) : MT D cy s0 l yX7_removeRange cX7_removeRange 5 (some .int) rX7_removeRange [.ref x0, .int x1, .int x2] h (some (.int v)) h1 := by
  refine MT.of (by decide +kernel) (Nat.le_of_ble_eq_true rfl) ?_
  intro p e s m below meth c H locs ls C hn hw hl
  exact bX7_removeRange C hn _ _ _ _ _ hf _ _ _ _ _ (Nat.le_of_ble_eq_true rfl) (Nat.le_of_ble_eq_true rfl) hw hl
abbrev rX7_keyField : Room := { frames := 1, cells := 0, slots := 0, locals := 20 }
abbrev pX7_keyField (D : va_G) (cy : Nat → ClassId) (s0 : Nat) (p : Program) (l : Launch) (e : Env) (s : State) (m : MethodId) (args : Array Value) (below : List Frame) (meth : Method) (c : Code) (r : Int32 × Hp) (x0 : Nat) (x1 : Int32) (x2 : Int32) (h : Hp) : Prop := ∀ (H : Heap) (locs : List Loc) (ls : Array Slot) (cells slots : Nat), cells + (0) ≤ 0 → slots + (0) ≤ 0 → WS D cy s0 s h H locs → lv_has ls 3 [(0, .ref x0), (1, .int x1), (2, .int x2)] → W p l e rX7_keyField s m args below meth c H locs cells slots (MQ below (QQ D cy s0 (some (.int r.1)) r.2) args s 0 0 (fun q => s0 ≤ q)) (F0 m 0 ls [])
set_option maxRecDepth 100000 in
set_option maxHeartbeats 4000000 in
theorem bX7_keyField {D : va_G} {cy : Nat → ClassId} {s0 : Nat} {p : Program} {l : Launch} {e : Env} {s : State} {m : MethodId} {args : Array Value} {below : List Frame} {meth : Method} {c : Code} (C : CX D cy s0 p s m args meth c cX7_keyField 3 RX7 (some .int)) (hn : meth.name = "keyField") : ∀ (x0 : Nat) (x1 : Int32) (x2 : Int32) (h : Hp) (r : Int32 × Hp), fX7_keyField x0 x1 x2 h = some r → pX7_keyField D cy s0 p l e s m args below meth c r x0 x1 x2 h := by
  intro x0 x1 x2 h ⟨rv, rh⟩ hf H locs ls cells slots hc hs hw hl
  unfold fX7_keyField at hf
  have hx := C.1
  have hb := C.2.1
  refine lv_iload_n hx hb dX7_keyField_0 rfl (lv_at hl 1 rfl) ?_
  obtain ⟨z1, h1, e1, hf⟩ := ob2 hf
  refine r_callSN C hw (mX9_isKey e1) kXX9_isKey nw656 w657 ⟨Nat.le_of_ble_eq_true rfl, Nat.le_of_ble_eq_true rfl⟩ rfl hl.1 (rest := []) rfl (Nat.le_of_ble_eq_true rfl) dX7_keyField_1 (mc := 0) (ms := 0) rfl rfl ⟨by show _ + 0 ≤ 0; omega, by show _ + 0 ≤ 0; omega⟩ (fun H locs hw => ?_)
  refine W.eq (g2 := F0 m 4 ls [.int z1]) rfl ?_
  refine lv_if_ne (tgt := 9) hx hb dX7_keyField_4 (by decide) (fun c2 => ?_) (fun c2 => ?_)
  · have hf := ie hf c2
    refine lv_iload_n hx hb dX7_keyField_9 rfl (lv_at hl 2 rfl) ?_
    by_cases n18 : x2 = (0 : Int32)
    · have hf := ip hf n18
      refine lv_tableIn (tgt := 40) (off := 30) hx hb dX7_keyField_10 (by rw [n18]; decide) (by rw [n18]; decide) (by rw [n18]; rfl) (by decide) ?_
      refine lv_aload_n hx hb dX7_keyField_40 rfl (lv_at hl 0 rfl) ?_
      obtain ⟨z6, e6, hf⟩ := ob hf
      refine r_gR C hw e6 ck7 rfl (by decide) w87 dX7_keyField_41 ?_
      cases z6 with
      | none =>
        have hf := on_n hf
        cases hf
      | some a7 =>
        have hf := on_s hf
        refine W.eq (g2 := F0 m 44 ls [.ref a7]) rfl ?_
        refine lv_iload_n hx hb dX7_keyField_44 rfl (lv_at hl 1 rfl) ?_
        obtain ⟨z8, e8, hf⟩ := ob hf
        refine r_iald C hw e8 dX7_keyField_45 ?_
        obtain ⟨rfl, rfl⟩ := sp hf
        exact r_iret C hw rfl rfl (by omega) (by omega) dX7_keyField_46
    · have hf := ie hf n18
      by_cases n19 : x2 = (1 : Int32)
      · have hf := ip hf n19
        refine lv_tableIn (tgt := 47) (off := 37) hx hb dX7_keyField_10 (by rw [n19]; decide) (by rw [n19]; decide) (by rw [n19]; rfl) (by decide) ?_
        refine lv_aload_n hx hb dX7_keyField_47 rfl (lv_at hl 0 rfl) ?_
        obtain ⟨z9, e9, hf⟩ := ob hf
        refine r_gR C hw e9 ck7 rfl (by decide) w88 dX7_keyField_48 ?_
        cases z9 with
        | none =>
          have hf := on_n hf
          cases hf
        | some a10 =>
          have hf := on_s hf
          refine W.eq (g2 := F0 m 51 ls [.ref a10]) rfl ?_
          refine lv_iload_n hx hb dX7_keyField_51 rfl (lv_at hl 1 rfl) ?_
          obtain ⟨z11, e11, hf⟩ := ob hf
          refine r_iald C hw e11 dX7_keyField_52 ?_
          obtain ⟨rfl, rfl⟩ := sp hf
          exact r_iret C hw rfl rfl (by omega) (by omega) dX7_keyField_53
      · have hf := ie hf n19
        by_cases n20 : x2 = (2 : Int32)
        · have hf := ip hf n20
          refine lv_tableIn (tgt := 54) (off := 44) hx hb dX7_keyField_10 (by rw [n20]; decide) (by rw [n20]; decide) (by rw [n20]; rfl) (by decide) ?_
          refine lv_aload_n hx hb dX7_keyField_54 rfl (lv_at hl 0 rfl) ?_
          obtain ⟨z12, e12, hf⟩ := ob hf
          refine r_gR C hw e12 ck7 rfl (by decide) w89 dX7_keyField_55 ?_
          cases z12 with
          | none =>
            have hf := on_n hf
            cases hf
          | some a13 =>
            have hf := on_s hf
            refine W.eq (g2 := F0 m 58 ls [.ref a13]) rfl ?_
            refine lv_iload_n hx hb dX7_keyField_58 rfl (lv_at hl 1 rfl) ?_
            obtain ⟨z14, e14, hf⟩ := ob hf
            refine r_iald C hw e14 dX7_keyField_59 ?_
            obtain ⟨rfl, rfl⟩ := sp hf
            exact r_iret C hw rfl rfl (by omega) (by omega) dX7_keyField_60
        · have hf := ie hf n20
          by_cases n21 : x2 = (3 : Int32)
          · have hf := ip hf n21
            refine lv_tableIn (tgt := 61) (off := 51) hx hb dX7_keyField_10 (by rw [n21]; decide) (by rw [n21]; decide) (by rw [n21]; rfl) (by decide) ?_
            refine lv_aload_n hx hb dX7_keyField_61 rfl (lv_at hl 0 rfl) ?_
            obtain ⟨z15, e15, hf⟩ := ob hf
            refine r_gR C hw e15 ck7 rfl (by decide) w90 dX7_keyField_62 ?_
            cases z15 with
            | none =>
              have hf := on_n hf
              cases hf
            | some a16 =>
              have hf := on_s hf
              refine W.eq (g2 := F0 m 65 ls [.ref a16]) rfl ?_
              refine lv_iload_n hx hb dX7_keyField_65 rfl (lv_at hl 1 rfl) ?_
              obtain ⟨z17, e17, hf⟩ := ob hf
              refine r_iald C hw e17 dX7_keyField_66 ?_
              obtain ⟨rfl, rfl⟩ := sp hf
              exact r_iret C hw rfl rfl (by omega) (by omega) dX7_keyField_67
          · have hf := ie hf n21
            refine lv_tableOut (tgt := 68) hx hb dX7_keyField_10 (tsw_out (x := x2) 0 [(0 : Int32), (1 : Int32), (2 : Int32), (3 : Int32)] (by decide) (List.forall_mem_cons.mpr ⟨n18, List.forall_mem_cons.mpr ⟨n19, List.forall_mem_cons.mpr ⟨n20, List.forall_mem_cons.mpr ⟨n21, fun _ h9 => absurd h9 List.not_mem_nil⟩⟩⟩⟩)) (by decide) ?_
            refine lv_aload_n hx hb dX7_keyField_68 rfl (lv_at hl 0 rfl) ?_
            obtain ⟨z3, e3, hf⟩ := ob hf
            refine r_gR C hw e3 ck7 rfl (by decide) w91 dX7_keyField_69 ?_
            cases z3 with
            | none =>
              have hf := on_n hf
              cases hf
            | some a4 =>
              have hf := on_s hf
              refine W.eq (g2 := F0 m 72 ls [.ref a4]) rfl ?_
              refine lv_iload_n hx hb dX7_keyField_72 rfl (lv_at hl 1 rfl) ?_
              obtain ⟨z5, e5, hf⟩ := ob hf
              refine r_iald C hw e5 dX7_keyField_73 ?_
              obtain ⟨rfl, rfl⟩ := sp hf
              exact r_iret C hw rfl rfl (by omega) (by omega) dX7_keyField_74
  · have hf := ip hf c2
    refine lv_iconst (v := (0 : Int32)) hx hb dX7_keyField_7 (by decide) ?_
    obtain ⟨rfl, rfl⟩ := sp hf
    exact r_iret C hw rfl rfl (by omega) (by omega) dX7_keyField_8
theorem kXX7_keyField : MK yX7_keyField cX7_keyField 3 (some .int) 2 := ⟨w686, w5, by decide +kernel⟩
theorem mX7_keyField {D : va_G} {cy : Nat → ClassId} {s0 : Nat} {l : Launch} {x0 : Nat} {x1 : Int32} {x2 : Int32} {h : Hp} {v : Int32} {h1 : Hp} (hf : fX7_keyField x0 x1 x2 h = some (v, h1)) : MT D cy s0 l yX7_keyField cX7_keyField 3 (some .int) rX7_keyField [.ref x0, .int x1, .int x2] h (some (.int v)) h1 := by
  refine MT.of (by decide +kernel) (Nat.le_of_ble_eq_true rfl) ?_
  intro p e s m below meth c H locs ls C hn hw hl
  exact bX7_keyField C hn _ _ _ _ _ hf _ _ _ _ _ (Nat.le_of_ble_eq_true rfl) (Nat.le_of_ble_eq_true rfl) hw hl
abbrev rX7_compares : Room := { frames := 0, cells := 0, slots := 0, locals := 0 }
abbrev pX7_compares (D : va_G) (cy : Nat → ClassId) (s0 : Nat) (p : Program) (l : Launch) (e : Env) (s : State) (m : MethodId) (args : Array Value) (below : List Frame) (meth : Method) (c : Code) (r : Int32 × Hp) (x0 : Int32) (x1 : Int32) (x2 : Int32) (h : Hp) : Prop := ∀ (H : Heap) (locs : List Loc) (ls : Array Slot) (cells slots : Nat), cells + (0) ≤ 0 → slots + (0) ≤ 0 → WS D cy s0 s h H locs → lv_has ls 3 [(0, .int x0), (1, .int x1), (2, .int x2)] → W p l e rX7_compares s m args below meth c H locs cells slots (MQ below (QQ D cy s0 (some (.int r.1)) r.2) args s 0 0 (fun q => s0 ≤ q)) (F0 m 0 ls [])
set_option maxRecDepth 100000 in
set_option maxHeartbeats 4000000 in
theorem bX7_compares {D : va_G} {cy : Nat → ClassId} {s0 : Nat} {p : Program} {l : Launch} {e : Env} {s : State} {m : MethodId} {args : Array Value} {below : List Frame} {meth : Method} {c : Code} (C : CX D cy s0 p s m args meth c cX7_compares 3 RX7 (some .boolean)) (hn : meth.name = "compares") : ∀ (x0 : Int32) (x1 : Int32) (x2 : Int32) (h : Hp) (r : Int32 × Hp), fX7_compares x0 x1 x2 h = some r → pX7_compares D cy s0 p l e s m args below meth c r x0 x1 x2 h := by
  intro x0 x1 x2 h ⟨rv, rh⟩ hf H locs ls cells slots hc hs hw hl
  unfold fX7_compares at hf
  have hx := C.1
  have hb := C.2.1
  refine lv_iload_n hx hb dX7_compares_0 rfl (lv_at hl 1 rfl) ?_
  refine lv_if_ne (tgt := 15) hx hb dX7_compares_1 (by decide) (fun c1 => ?_) (fun c1 => ?_)
  · have hf := ie hf c1
    refine lv_iload_n hx hb dX7_compares_15 rfl (lv_at hl 1 rfl) ?_
    refine lv_iconst (v := (1 : Int32)) hx hb dX7_compares_16 (by decide) ?_
    refine lv_icmp_ne (tgt := 33) hx hb dX7_compares_17 (by decide) (fun c2 => ?_) (fun c2 => ?_)
    · have hf := ie hf c2
      refine lv_iload_n hx hb dX7_compares_33 rfl (lv_at hl 0 rfl) ?_
      refine lv_iload_n hx hb dX7_compares_34 rfl (lv_at hl 2 rfl) ?_
      refine lv_icmp_le (tgt := 42) hx hb dX7_compares_35 (by decide) (fun c3 => ?_) (fun c3 => ?_)
      · have hf := ip hf c3
        refine lv_iconst (v := (0 : Int32)) hx hb dX7_compares_42 (by decide) ?_
        obtain ⟨rfl, rfl⟩ := sp hf
        exact r_iret C hw rfl (nz (Or.inl rfl)) (by omega) (by omega) dX7_compares_43
      · have hf := ie hf c3
        refine lv_iconst (v := (1 : Int32)) hx hb dX7_compares_38 (by decide) ?_
        refine lv_goto (tgt := 43) hx hb dX7_compares_39 (by decide) ?_
        obtain ⟨rfl, rfl⟩ := sp hf
        exact r_iret C hw rfl (nz (Or.inr rfl)) (by omega) (by omega) dX7_compares_43
    · have hf := ip hf c2
      refine lv_iload_n hx hb dX7_compares_20 rfl (lv_at hl 0 rfl) ?_
      refine lv_iload_n hx hb dX7_compares_21 rfl (lv_at hl 2 rfl) ?_
      refine lv_icmp_ge (tgt := 29) hx hb dX7_compares_22 (by decide) (fun c4 => ?_) (fun c4 => ?_)
      · have hf := ip hf c4
        refine lv_iconst (v := (0 : Int32)) hx hb dX7_compares_29 (by decide) ?_
        refine lv_goto (tgt := 43) hx hb dX7_compares_30 (by decide) ?_
        obtain ⟨rfl, rfl⟩ := sp hf
        exact r_iret C hw rfl (nz (Or.inl rfl)) (by omega) (by omega) dX7_compares_43
      · have hf := ie hf c4
        refine lv_iconst (v := (1 : Int32)) hx hb dX7_compares_25 (by decide) ?_
        refine lv_goto (tgt := 43) hx hb dX7_compares_26 (by decide) ?_
        obtain ⟨rfl, rfl⟩ := sp hf
        exact r_iret C hw rfl (nz (Or.inr rfl)) (by omega) (by omega) dX7_compares_43
  · have hf := ip hf c1
    refine lv_iload_n hx hb dX7_compares_4 rfl (lv_at hl 0 rfl) ?_
    refine lv_iload_n hx hb dX7_compares_5 rfl (lv_at hl 2 rfl) ?_
    refine lv_icmp_ne (tgt := 13) hx hb dX7_compares_6 (by decide) (fun c5 => ?_) (fun c5 => ?_)
    · have hf := ie hf c5
      refine lv_iconst (v := (0 : Int32)) hx hb dX7_compares_13 (by decide) ?_
      obtain ⟨rfl, rfl⟩ := sp hf
      exact r_iret C hw rfl (nz (Or.inl rfl)) (by omega) (by omega) dX7_compares_14
    · have hf := ip hf c5
      refine lv_iconst (v := (1 : Int32)) hx hb dX7_compares_9 (by decide) ?_
      refine lv_goto (tgt := 14) hx hb dX7_compares_10 (by decide) ?_
      obtain ⟨rfl, rfl⟩ := sp hf
      exact r_iret C hw rfl (nz (Or.inr rfl)) (by omega) (by omega) dX7_compares_14
theorem kXX7_compares : MK yX7_compares cX7_compares 3 (some .boolean) 3 := ⟨w689, w5, by decide +kernel⟩
theorem mX7_compares {D : va_G} {cy : Nat → ClassId} {s0 : Nat} {l : Launch} {x0 : Int32} {x1 : Int32} {x2 : Int32} {h : Hp} {v : Int32} {h1 : Hp} (hf : fX7_compares x0 x1 x2 h = some (v, h1)) : MT D cy s0 l yX7_compares cX7_compares 3 (some .boolean) rX7_compares [.int x0, .int x1, .int x2] h (some (.int v)) h1 := by
  refine MT.of (by decide +kernel) (Nat.le_of_ble_eq_true rfl) ?_
  intro p e s m below meth c H locs ls C hn hw hl
  exact bX7_compares C hn _ _ _ _ _ hf _ _ _ _ _ (Nat.le_of_ble_eq_true rfl) (Nat.le_of_ble_eq_true rfl) hw hl
abbrev rX7_compareAndPut : Room := { frames := 2, cells := 0, slots := 0, locals := 46 }
abbrev pX7_compareAndPut (D : va_G) (cy : Nat → ClassId) (s0 : Nat) (p : Program) (l : Launch) (e : Env) (s : State) (m : MethodId) (args : Array Value) (below : List Frame) (meth : Method) (c : Code) (r : Int32 × Hp) (x0 : Nat) (x1 : Nat) (h : Hp) : Prop := ∀ (H : Heap) (locs : List Loc) (ls : Array Slot) (cells slots : Nat), cells + (0) ≤ 0 → slots + (0) ≤ 0 → WS D cy s0 s h H locs → lv_has ls 2 [(0, .ref x0), (1, .ref x1)] → W p l e rX7_compareAndPut s m args below meth c H locs cells slots (MQ below (QQ D cy s0 (some (.int r.1)) r.2) args s 0 0 (fun q => s0 ≤ q)) (F0 m 0 ls [])
set_option maxRecDepth 100000 in
set_option maxHeartbeats 4000000 in
theorem bX7_compareAndPut {D : va_G} {cy : Nat → ClassId} {s0 : Nat} {p : Program} {l : Launch} {e : Env} {s : State} {m : MethodId} {args : Array Value} {below : List Frame} {meth : Method} {c : Code} (C : CX D cy s0 p s m args meth c cX7_compareAndPut 2 RX7 (some .int)) (hn : meth.name = "compareAndPut") : ∀ (x0 : Nat) (x1 : Nat) (h : Hp) (r : Int32 × Hp), fX7_compareAndPut x0 x1 h = some r → pX7_compareAndPut D cy s0 p l e s m args below meth c r x0 x1 h := by
  intro x0 x1 h ⟨rv, rh⟩ hf H locs ls cells slots hc hs hw hl
  unfold fX7_compareAndPut at hf
  have hx := C.1
  have hb := C.2.1
  refine lv_aload_n hx hb dX7_compareAndPut_0 rfl (lv_at hl 0 rfl) ?_
  refine lv_aload_n hx hb dX7_compareAndPut_1 rfl (lv_at hl 1 rfl) ?_
  obtain ⟨z1, e1, hf⟩ := ob hf
  refine r_gI C hw e1 ck0 rfl (by decide) w503 dX7_compareAndPut_2 ?_
  refine lv_aload_n hx hb dX7_compareAndPut_5 rfl (lv_at hl 1 rfl) ?_
  obtain ⟨z2, e2, hf⟩ := ob hf
  refine r_gI C hw e2 ck0 rfl (by decide) w505 dX7_compareAndPut_6 ?_
  obtain ⟨kb3, hf⟩ := ig hf
  obtain ⟨z3, h3, e3, hf⟩ := ob2 hf
  refine r_callV C hw (mX7_keyField e3) kXX7_keyField ck7 rfl kb3 w683 w684 w685 ⟨Nat.le_of_ble_eq_true rfl, Nat.le_of_ble_eq_true rfl⟩ rfl hl.1 (rest := []) rfl (Nat.le_of_ble_eq_true rfl) dX7_compareAndPut_9 (mc := 0) (ms := 0) rfl rfl ⟨by show _ + 0 ≤ 0; omega, by show _ + 0 ≤ 0; omega⟩ (fun H locs hw => ?_)
  refine W.eq (g2 := F0 m 12 ls [.int z3]) rfl ?_
  refine lv_aload_n hx hb dX7_compareAndPut_12 rfl (lv_at hl 1 rfl) ?_
  obtain ⟨z4, e4, hf⟩ := ob hf
  refine r_gI C hw e4 ck0 rfl (by decide) w507 dX7_compareAndPut_13 ?_
  refine lv_aload_n hx hb dX7_compareAndPut_16 rfl (lv_at hl 1 rfl) ?_
  obtain ⟨z5, e5, hf⟩ := ob hf
  refine r_gI C hw e5 ck0 rfl (by decide) w509 dX7_compareAndPut_17 ?_
  obtain ⟨z6, h6, e6, hf⟩ := ob2 hf
  refine r_callS C hw (mX7_compares e6) kXX7_compares w687 w688 ⟨Nat.le_of_ble_eq_true rfl, Nat.le_of_ble_eq_true rfl⟩ rfl hl.1 (rest := []) rfl (Nat.le_of_ble_eq_true rfl) dX7_compareAndPut_20 (mc := 0) (ms := 0) rfl rfl ⟨by show _ + 0 ≤ 0; omega, by show _ + 0 ≤ 0; omega⟩ (fun H locs hw => ?_)
  refine W.eq (g2 := F0 m 23 ls [.int z6]) rfl ?_
  refine lv_if_eq (tgt := 41) hx hb dX7_compareAndPut_23 (by decide) (fun c7 => ?_) (fun c7 => ?_)
  · have hf := ip hf c7
    refine lv_aload_n hx hb dX7_compareAndPut_41 rfl (lv_at hl 0 rfl) ?_
    refine lv_aload_n hx hb dX7_compareAndPut_42 rfl (lv_at hl 0 rfl) ?_
    refine lv_aload_n hx hb dX7_compareAndPut_43 rfl (lv_at hl 1 rfl) ?_
    obtain ⟨z8, e8, hf⟩ := ob hf
    refine r_gI C hw e8 ck0 rfl (by decide) w511 dX7_compareAndPut_44 ?_
    obtain ⟨kb9, hf⟩ := ig hf
    obtain ⟨z9, h9, e9, hf⟩ := ob2 hf
    refine r_callV C hw (mX7_remove e9) kXX7_remove ck7 rfl kb9 w673 w675 v25 ⟨Nat.le_of_ble_eq_true rfl, Nat.le_of_ble_eq_true rfl⟩ rfl hl.1 (rest := [.ref x0]) rfl (Nat.le_of_ble_eq_true rfl) dX7_compareAndPut_47 (mc := 0) (ms := 0) rfl rfl ⟨by show _ + 0 ≤ 0; omega, by show _ + 0 ≤ 0; omega⟩ (fun H locs hw => ?_)
    refine W.eq (g2 := F0 m 50 ls [.int z9, .ref x0]) rfl ?_
    obtain ⟨kb10, hf⟩ := ig hf
    obtain ⟨z10, h10, e10, hf⟩ := ob2 hf
    refine r_callV C hw (mX7_endRevision e10) kXX7_endRevision ck7 rfl kb10 w664 w666 v23 ⟨Nat.le_of_ble_eq_true rfl, Nat.le_of_ble_eq_true rfl⟩ rfl hl.1 (rest := []) rfl (Nat.le_of_ble_eq_true rfl) dX7_compareAndPut_50 (mc := 0) (ms := 0) rfl rfl ⟨by show _ + 0 ≤ 0; omega, by show _ + 0 ≤ 0; omega⟩ (fun H locs hw => ?_)
    refine W.eq (g2 := F0 m 53 ls []) rfl ?_
    refine lv_iconst (v := (0 : Int32)) hx hb dX7_compareAndPut_53 (by decide) ?_
    obtain ⟨rfl, rfl⟩ := sp hf
    exact r_iret C hw rfl rfl (by omega) (by omega) dX7_compareAndPut_54
  · have hf := ie hf c7
    refine lv_aload_n hx hb dX7_compareAndPut_26 rfl (lv_at hl 0 rfl) ?_
    refine lv_aload_n hx hb dX7_compareAndPut_27 rfl (lv_at hl 1 rfl) ?_
    obtain ⟨z11, e11, hf⟩ := ob hf
    refine r_gI C hw e11 ck0 rfl (by decide) w511 dX7_compareAndPut_28 ?_
    refine lv_aload_n hx hb dX7_compareAndPut_31 rfl (lv_at hl 1 rfl) ?_
    obtain ⟨z12, e12, hf⟩ := ob hf
    refine r_gI C hw e12 ck0 rfl (by decide) w513 dX7_compareAndPut_32 ?_
    refine lv_iconst (v := (0 : Int32)) hx hb dX7_compareAndPut_35 (by decide) ?_
    obtain ⟨kb13, hf⟩ := ig hf
    obtain ⟨z13, h13, e13, hf⟩ := ob2 hf
    refine r_callV C hw (mX7_put e13) kXX7_put ck7 rfl kb13 w652 w654 v21 ⟨Nat.le_of_ble_eq_true rfl, Nat.le_of_ble_eq_true rfl⟩ rfl hl.1 (rest := []) rfl (Nat.le_of_ble_eq_true rfl) dX7_compareAndPut_36 (mc := 0) (ms := 0) rfl rfl ⟨by show _ + 0 ≤ 0; omega, by show _ + 0 ≤ 0; omega⟩ (fun H locs hw => ?_)
    refine W.eq (g2 := F0 m 39 ls []) rfl ?_
    refine lv_iconst (v := (1 : Int32)) hx hb dX7_compareAndPut_39 (by decide) ?_
    obtain ⟨rfl, rfl⟩ := sp hf
    exact r_iret C hw rfl rfl (by omega) (by omega) dX7_compareAndPut_40
theorem kXX7_compareAndPut : MK yX7_compareAndPut cX7_compareAndPut 2 (some .int) 1 := ⟨w682, w5, by decide +kernel⟩
theorem mX7_compareAndPut {D : va_G} {cy : Nat → ClassId} {s0 : Nat} {l : Launch} {x0 : Nat} {x1 : Nat} {h : Hp} {v : Int32} {h1 : Hp} (hf : fX7_compareAndPut x0 x1 h = some (v, h1)) : MT D cy s0 l yX7_compareAndPut cX7_compareAndPut 2 (some .int) rX7_compareAndPut [.ref x0, .ref x1] h (some (.int v)) h1 := by
  refine MT.of (by decide +kernel) (Nat.le_of_ble_eq_true rfl) ?_
  intro p e s m below meth c H locs ls C hn hw hl
  exact bX7_compareAndPut C hn _ _ _ _ hf _ _ _ _ _ (Nat.le_of_ble_eq_true rfl) (Nat.le_of_ble_eq_true rfl) hw hl
abbrev rX7_grant : Room := { frames := 2, cells := 0, slots := 0, locals := 41 }
abbrev pX7_grant (D : va_G) (cy : Nat → ClassId) (s0 : Nat) (p : Program) (l : Launch) (e : Env) (s : State) (m : MethodId) (args : Array Value) (below : List Frame) (meth : Method) (c : Code) (r : Int32 × Hp) (x0 : Nat) (x1 : Int32) (x2 : Int32) (h : Hp) : Prop := ∀ (H : Heap) (locs : List Loc) (ls : Array Slot) (cells slots : Nat), cells + (0) ≤ 0 → slots + (0) ≤ 0 → WS D cy s0 s h H locs → lv_has ls 3 [(0, .ref x0), (1, .int x1), (2, .int x2)] → W p l e rX7_grant s m args below meth c H locs cells slots (MQ below (QQ D cy s0 (some (.int r.1)) r.2) args s 0 0 (fun q => s0 ≤ q)) (F0 m 0 ls [])
set_option maxRecDepth 100000 in
set_option maxHeartbeats 4000000 in
theorem bX7_grant {D : va_G} {cy : Nat → ClassId} {s0 : Nat} {p : Program} {l : Launch} {e : Env} {s : State} {m : MethodId} {args : Array Value} {below : List Frame} {meth : Method} {c : Code} (C : CX D cy s0 p s m args meth c cX7_grant 3 RX7 (some .int)) (hn : meth.name = "grant") : ∀ (x0 : Nat) (x1 : Int32) (x2 : Int32) (h : Hp) (r : Int32 × Hp), fX7_grant x0 x1 x2 h = some r → pX7_grant D cy s0 p l e s m args below meth c r x0 x1 x2 h := by
  intro x0 x1 x2 h ⟨rv, rh⟩ hf H locs ls cells slots hc hs hw hl
  unfold fX7_grant at hf
  have hx := C.1
  have hb := C.2.1
  refine lv_iload_n hx hb dX7_grant_0 rfl (lv_at hl 1 rfl) ?_
  obtain ⟨z1, h1, e1, hf⟩ := ob2 hf
  refine r_callSN C hw (mX9_isLease e1) kXX9_isLease nw646 w647 ⟨Nat.le_of_ble_eq_true rfl, Nat.le_of_ble_eq_true rfl⟩ rfl hl.1 (rest := []) rfl (Nat.le_of_ble_eq_true rfl) dX7_grant_1 (mc := 0) (ms := 0) rfl rfl ⟨by show _ + 0 ≤ 0; omega, by show _ + 0 ≤ 0; omega⟩ (fun H locs hw => ?_)
  refine W.eq (g2 := F0 m 4 ls [.int z1]) rfl ?_
  refine lv_if_eq (tgt := 15) hx hb dX7_grant_4 (by decide) (fun c2 => ?_) (fun c2 => ?_)
  · have hf := ip hf c2
    refine lv_iconst (v := (0 : Int32)) hx hb dX7_grant_15 (by decide) ?_
    obtain ⟨rfl, rfl⟩ := sp hf
    exact r_iret C hw rfl rfl (by omega) (by omega) dX7_grant_16
  · have hf := ie hf c2
    refine lv_aload_n hx hb dX7_grant_7 rfl (lv_at hl 0 rfl) ?_
    refine lv_iload_n hx hb dX7_grant_8 rfl (lv_at hl 1 rfl) ?_
    obtain ⟨kb3, hf⟩ := ig hf
    obtain ⟨z3, h3, e3, hf⟩ := ob2 hf
    refine r_callV C hw (mX7_hasLease e3) kXX7_hasLease ck7 rfl kb3 w642 w644 v20 ⟨Nat.le_of_ble_eq_true rfl, Nat.le_of_ble_eq_true rfl⟩ rfl hl.1 (rest := []) rfl (Nat.le_of_ble_eq_true rfl) dX7_grant_9 (mc := 0) (ms := 0) rfl rfl ⟨by show _ + 0 ≤ 0; omega, by show _ + 0 ≤ 0; omega⟩ (fun H locs hw => ?_)
    refine W.eq (g2 := F0 m 12 ls [.int z3]) rfl ?_
    refine lv_if_eq (tgt := 17) hx hb dX7_grant_12 (by decide) (fun c4 => ?_) (fun c4 => ?_)
    · have hf := ip hf c4
      refine lv_aload_n hx hb dX7_grant_17 rfl (lv_at hl 0 rfl) ?_
      refine lv_dup hx hb dX7_grant_18 rfl ?_
      obtain ⟨z5, e5, hf⟩ := ob hf
      refine r_gI C hw e5 ck7 rfl (by decide) w94 dX7_grant_19 ?_
      refine lv_iload_n hx hb dX7_grant_22 rfl (lv_at hl 1 rfl) ?_
      obtain ⟨z6, h6, e6, hf⟩ := ob2 hf
      refine r_callS C hw (mX7_bitOfLease e6) kXX7_bitOfLease w649 w650 ⟨Nat.le_of_ble_eq_true rfl, Nat.le_of_ble_eq_true rfl⟩ rfl hl.1 (rest := [.int z5, .ref x0]) rfl (Nat.le_of_ble_eq_true rfl) dX7_grant_23 (mc := 0) (ms := 0) rfl rfl ⟨by show _ + 0 ≤ 0; omega, by show _ + 0 ≤ 0; omega⟩ (fun H locs hw => ?_)
      refine W.eq (g2 := F0 m 26 ls [.int z6, .int z5, .ref x0]) rfl ?_
      refine lv_ior hx hb dX7_grant_26 ?_
      obtain ⟨h7, e7, hf⟩ := ob hf
      refine r_pI C hw e7 ck7 rfl (by decide) rfl w94 (Or.inl rfl) dX7_grant_27 (fun H locs hw => ?_)
      refine lv_aload_n hx hb dX7_grant_30 rfl (lv_at hl 0 rfl) ?_
      obtain ⟨z8, e8, hf⟩ := ob hf
      refine r_gR C hw e8 ck7 rfl (by decide) w95 dX7_grant_31 ?_
      cases z8 with
      | none =>
        have hf := on_n hf
        cases hf
      | some a9 =>
        have hf := on_s hf
        refine W.eq (g2 := F0 m 34 ls [.ref a9]) rfl ?_
        refine lv_iload_n hx hb dX7_grant_34 rfl (lv_at hl 1 rfl) ?_
        refine lv_aload_n hx hb dX7_grant_35 rfl (lv_at hl 0 rfl) ?_
        obtain ⟨z10, e10, hf⟩ := ob hf
        refine r_gI C hw e10 ck7 rfl (by decide) w86 dX7_grant_36 ?_
        refine lv_iload_n hx hb dX7_grant_39 rfl (lv_at hl 2 rfl) ?_
        refine lv_iadd hx hb dX7_grant_40 ?_
        obtain ⟨h11, e11, hf⟩ := ob hf
        refine r_iast C hw e11 dX7_grant_41 (fun H locs hw => ?_)
        refine lv_iconst (v := (1 : Int32)) hx hb dX7_grant_42 (by decide) ?_
        obtain ⟨rfl, rfl⟩ := sp hf
        exact r_iret C hw rfl rfl (by omega) (by omega) dX7_grant_43
    · have hf := ie hf c4
      refine lv_iconst (v := (0 : Int32)) hx hb dX7_grant_15 (by decide) ?_
      obtain ⟨rfl, rfl⟩ := sp hf
      exact r_iret C hw rfl rfl (by omega) (by omega) dX7_grant_16
theorem kXX7_grant : MK yX7_grant cX7_grant 3 (some .int) 2 := ⟨w693, w5, by decide +kernel⟩
theorem mX7_grant {D : va_G} {cy : Nat → ClassId} {s0 : Nat} {l : Launch} {x0 : Nat} {x1 : Int32} {x2 : Int32} {h : Hp} {v : Int32} {h1 : Hp} (hf : fX7_grant x0 x1 x2 h = some (v, h1)) : MT D cy s0 l yX7_grant cX7_grant 3 (some .int) rX7_grant [.ref x0, .int x1, .int x2] h (some (.int v)) h1 := by
  refine MT.of (by decide +kernel) (Nat.le_of_ble_eq_true rfl) ?_
  intro p e s m below meth c H locs ls C hn hw hl
  exact bX7_grant C hn _ _ _ _ _ hf _ _ _ _ _ (Nat.le_of_ble_eq_true rfl) (Nat.le_of_ble_eq_true rfl) hw hl
abbrev rX7_revoke : Room := { frames := 2, cells := 0, slots := 0, locals := 43 }
abbrev pX7_revoke_53 (D : va_G) (cy : Nat → ClassId) (s0 : Nat) (p : Program) (l : Launch) (e : Env) (s : State) (m : MethodId) (args : Array Value) (below : List Frame) (meth : Method) (c : Code) (r : Int32 × Hp) (x0 : Nat) (x1 : Int32) (x2 : Int32) (x3 : Int32) (h : Hp) : Prop := ∀ (H : Heap) (locs : List Loc) (ls : Array Slot) (cells slots : Nat), cells + (0) ≤ 0 → slots + (0) ≤ 0 → WS D cy s0 s h H locs → lv_has ls 4 [(0, .ref x0), (1, .int x1), (2, .int x2), (3, .int x3)] → W p l e rX7_revoke s m args below meth c H locs cells slots (MQ below (QQ D cy s0 (some (.int r.1)) r.2) args s 0 0 (fun q => s0 ≤ q)) (F0 m 53 ls [])
abbrev pX7_revoke_29 (D : va_G) (cy : Nat → ClassId) (s0 : Nat) (p : Program) (l : Launch) (e : Env) (s : State) (m : MethodId) (args : Array Value) (below : List Frame) (meth : Method) (c : Code) (r : Int32 × Hp) (x0 : Nat) (x1 : Int32) (x2 : Int32) (x3 : Int32) (h : Hp) : Prop := ∀ (H : Heap) (locs : List Loc) (ls : Array Slot) (cells slots : Nat), cells + (0) ≤ 0 → slots + (0) ≤ 0 → WS D cy s0 s h H locs → lv_has ls 4 [(0, .ref x0), (1, .int x1), (2, .int x2), (3, .int x3)] → W p l e rX7_revoke s m args below meth c H locs cells slots (MQ below (QQ D cy s0 (some (.int r.1)) r.2) args s 0 0 (fun q => s0 ≤ q)) (F0 m 29 ls [])
abbrev pX7_revoke (D : va_G) (cy : Nat → ClassId) (s0 : Nat) (p : Program) (l : Launch) (e : Env) (s : State) (m : MethodId) (args : Array Value) (below : List Frame) (meth : Method) (c : Code) (r : Int32 × Hp) (x0 : Nat) (x1 : Int32) (h : Hp) : Prop := ∀ (H : Heap) (locs : List Loc) (ls : Array Slot) (cells slots : Nat), cells + (0) ≤ 0 → slots + (0) ≤ 0 → WS D cy s0 s h H locs → lv_has ls 4 [(0, .ref x0), (1, .int x1)] → W p l e rX7_revoke s m args below meth c H locs cells slots (MQ below (QQ D cy s0 (some (.int r.1)) r.2) args s 0 0 (fun q => s0 ≤ q)) (F0 m 0 ls [])
set_option maxRecDepth 100000 in
set_option maxHeartbeats 4000000 in
theorem bX7_revoke_53 {D : va_G} {cy : Nat → ClassId} {s0 : Nat} {p : Program} {l : Launch} {e : Env} {s : State} {m : MethodId} {args : Array Value} {below : List Frame} {meth : Method} {c : Code} (C : CX D cy s0 p s m args meth c cX7_revoke 4 RX7 (some .int)) (hn : meth.name = "revoke") {k29 : Nat → Int32 → Int32 → Int32 → Hp → Option (Int32 × Hp)} (hk29 : ∀ (x0 : Nat) (x1 : Int32) (x2 : Int32) (x3 : Int32) (h : Hp) (r : Int32 × Hp), k29 x0 x1 x2 x3 h = some r → pX7_revoke_29 D cy s0 p l e s m args below meth c r x0 x1 x2 x3 h) : ∀ (x0 : Nat) (x1 : Int32) (x2 : Int32) (x3 : Int32) (h : Hp) (r : Int32 × Hp), fX7_revoke_53 k29 x0 x1 x2 x3 h = some r → pX7_revoke_53 D cy s0 p l e s m args below meth c r x0 x1 x2 x3 h := by
  intro x0 x1 x2 x3 h ⟨rv, rh⟩ hf H locs ls cells slots hc hs hw hl
  unfold fX7_revoke_53 at hf
  have hx := C.1
  have hb := C.2.1
  refine lv_iinc (v := (x3 + (1 : Int32))) (lv' := [(3, .int (x3 + (1 : Int32))), (0, .ref x0), (1, .int x1), (2, .int x2)]) hx hb dX7_revoke_53 hl (k := 3) rfl rfl (by decide) rfl (fun ls hl => ?_)
  refine lv_goto (tgt := 29) hx hb dX7_revoke_56 (by decide) ?_
  exact hk29 _ _ _ _ _ _ hf _ _ _ _ _ (by omega) (by omega) hw (lv_sub hl [1, 2, 3, 0] rfl)
set_option maxRecDepth 100000 in
set_option maxHeartbeats 4000000 in
theorem bX7_revoke_29_body {D : va_G} {cy : Nat → ClassId} {s0 : Nat} {p : Program} {l : Launch} {e : Env} {s : State} {m : MethodId} {args : Array Value} {below : List Frame} {meth : Method} {c : Code} (C : CX D cy s0 p s m args meth c cX7_revoke 4 RX7 (some .int)) (hn : meth.name = "revoke") {k29 : Nat → Int32 → Int32 → Int32 → Hp → Option (Int32 × Hp)} (hk29 : ∀ (x0 : Nat) (x1 : Int32) (x2 : Int32) (x3 : Int32) (h : Hp) (r : Int32 × Hp), k29 x0 x1 x2 x3 h = some r → pX7_revoke_29 D cy s0 p l e s m args below meth c r x0 x1 x2 x3 h) : ∀ (x0 : Nat) (x1 : Int32) (x2 : Int32) (x3 : Int32) (h : Hp) (r : Int32 × Hp), fX7_revoke_29_body k29 x0 x1 x2 x3 h = some r → pX7_revoke_29 D cy s0 p l e s m args below meth c r x0 x1 x2 x3 h := by
  intro x0 x1 x2 x3 h ⟨rv, rh⟩ hf H locs ls cells slots hc hs hw hl
  unfold fX7_revoke_29_body at hf
  have hx := C.1
  have hb := C.2.1
  refine lv_iload_n hx hb dX7_revoke_29 rfl (lv_at hl 3 rfl) ?_
  refine lv_bipush (v := (64 : Int32)) hx hb dX7_revoke_30 (by decide) ?_
  refine lv_icmp_ge (tgt := 59) hx hb dX7_revoke_32 (by decide) (fun c1 => ?_) (fun c1 => ?_)
  · have hf := ip hf c1
    refine lv_aload_n hx hb dX7_revoke_59 rfl (lv_at hl 0 rfl) ?_
    refine lv_iload_n hx hb dX7_revoke_60 rfl (lv_at hl 2 rfl) ?_
    obtain ⟨kb2, hf⟩ := ig hf
    obtain ⟨z2, h2, e2, hf⟩ := ob2 hf
    refine r_callV C hw (mX7_endRevision e2) kXX7_endRevision ck7 rfl kb2 w664 w666 v23 ⟨Nat.le_of_ble_eq_true rfl, Nat.le_of_ble_eq_true rfl⟩ rfl hl.1 (rest := []) rfl (Nat.le_of_ble_eq_true rfl) dX7_revoke_61 (mc := 0) (ms := 0) rfl rfl ⟨by show _ + 0 ≤ 0; omega, by show _ + 0 ≤ 0; omega⟩ (fun H locs hw => ?_)
    refine W.eq (g2 := F0 m 64 ls []) rfl ?_
    refine lv_iload_n hx hb dX7_revoke_64 rfl (lv_at hl 2 rfl) ?_
    obtain ⟨rfl, rfl⟩ := sp hf
    exact r_iret C hw rfl rfl (by omega) (by omega) dX7_revoke_65
  · have hf := ie hf c1
    refine lv_aload_n hx hb dX7_revoke_35 rfl (lv_at hl 0 rfl) ?_
    obtain ⟨z3, e3, hf⟩ := ob hf
    refine r_gR C hw e3 ck7 rfl (by decide) w91 dX7_revoke_36 ?_
    cases z3 with
    | none =>
      have hf := on_n hf
      cases hf
    | some a4 =>
      have hf := on_s hf
      refine W.eq (g2 := F0 m 39 ls [.ref a4]) rfl ?_
      refine lv_iload_n hx hb dX7_revoke_39 rfl (lv_at hl 3 rfl) ?_
      obtain ⟨z5, e5, hf⟩ := ob hf
      refine r_iald C hw e5 dX7_revoke_40 ?_
      refine lv_iload_n hx hb dX7_revoke_41 rfl (lv_at hl 1 rfl) ?_
      refine lv_icmp_ne (tgt := 53) hx hb dX7_revoke_42 (by decide) (fun c6 => ?_) (fun c6 => ?_)
      · have hf := ie hf c6
        exact bX7_revoke_53 C hn hk29 _ _ _ _ _ _ hf _ _ _ _ _ (by omega) (by omega) hw (lv_sub hl [0, 1, 2, 3] rfl)
      · have hf := ip hf c6
        refine lv_iload_n hx hb dX7_revoke_45 rfl (lv_at hl 2 rfl) ?_
        refine lv_aload_n hx hb dX7_revoke_46 rfl (lv_at hl 0 rfl) ?_
        refine lv_iload_n hx hb dX7_revoke_47 rfl (lv_at hl 3 rfl) ?_
        obtain ⟨kb7, hf⟩ := ig hf
        obtain ⟨z7, h7, e7, hf⟩ := ob2 hf
        refine r_callV C hw (mX7_remove e7) kXX7_remove ck7 rfl kb7 w673 w675 v25 ⟨Nat.le_of_ble_eq_true rfl, Nat.le_of_ble_eq_true rfl⟩ rfl hl.1 (rest := [.int x2]) rfl (Nat.le_of_ble_eq_true rfl) dX7_revoke_48 (mc := 0) (ms := 0) rfl rfl ⟨by show _ + 0 ≤ 0; omega, by show _ + 0 ≤ 0; omega⟩ (fun H locs hw => ?_)
        refine W.eq (g2 := F0 m 51 ls [.int z7, .int x2]) rfl ?_
        refine lv_iadd hx hb dX7_revoke_51 ?_
        refine lv_istore_n (lv' := [(2, .int (x2 + z7)), (0, .ref x0), (1, .int x1), (3, .int x3)]) hx hb dX7_revoke_52 rfl hl (by decide) rfl (fun ls hl => ?_)
        exact bX7_revoke_53 C hn hk29 _ _ _ _ _ _ hf _ _ _ _ _ (by omega) (by omega) hw (lv_sub hl [1, 2, 0, 3] rfl)
set_option maxRecDepth 100000 in
set_option maxHeartbeats 4000000 in
theorem bX7_revoke_29 {D : va_G} {cy : Nat → ClassId} {s0 : Nat} {p : Program} {l : Launch} {e : Env} {s : State} {m : MethodId} {args : Array Value} {below : List Frame} {meth : Method} {c : Code} (C : CX D cy s0 p s m args meth c cX7_revoke 4 RX7 (some .int)) (hn : meth.name = "revoke") : ∀ (n : Nat) (x0 : Nat) (x1 : Int32) (x2 : Int32) (x3 : Int32) (h : Hp) (r : Int32 × Hp), fX7_revoke_29 n x0 x1 x2 x3 h = some r → pX7_revoke_29 D cy s0 p l e s m args below meth c r x0 x1 x2 x3 h := by
  intro n
  induction n with
  | zero => intro x0 x1 x2 x3 h r hf; exact absurd hf (fun q => by cases q)
  | succ n ih => exact bX7_revoke_29_body C hn ih
set_option maxRecDepth 100000 in
set_option maxHeartbeats 4000000 in
theorem bX7_revoke {D : va_G} {cy : Nat → ClassId} {s0 : Nat} {p : Program} {l : Launch} {e : Env} {s : State} {m : MethodId} {args : Array Value} {below : List Frame} {meth : Method} {c : Code} (C : CX D cy s0 p s m args meth c cX7_revoke 4 RX7 (some .int)) (hn : meth.name = "revoke") : ∀ (x0 : Nat) (x1 : Int32) (h : Hp) (r : Int32 × Hp), fX7_revoke x0 x1 h = some r → pX7_revoke D cy s0 p l e s m args below meth c r x0 x1 h := by
  intro x0 x1 h ⟨rv, rh⟩ hf H locs ls cells slots hc hs hw hl
  unfold fX7_revoke at hf
  have hx := C.1
  have hb := C.2.1
  refine lv_aload_n hx hb dX7_revoke_0 rfl (lv_at hl 0 rfl) ?_
  refine lv_iload_n hx hb dX7_revoke_1 rfl (lv_at hl 1 rfl) ?_
  obtain ⟨kb1, hf⟩ := ig hf
  obtain ⟨z1, h1, e1, hf⟩ := ob2 hf
  refine r_callV C hw (mX7_hasLease e1) kXX7_hasLease ck7 rfl kb1 w642 w644 v20 ⟨Nat.le_of_ble_eq_true rfl, Nat.le_of_ble_eq_true rfl⟩ rfl hl.1 (rest := []) rfl (Nat.le_of_ble_eq_true rfl) dX7_revoke_2 (mc := 0) (ms := 0) rfl rfl ⟨by show _ + 0 ≤ 0; omega, by show _ + 0 ≤ 0; omega⟩ (fun H locs hw => ?_)
  refine W.eq (g2 := F0 m 5 ls [.int z1]) rfl ?_
  refine lv_if_ne (tgt := 10) hx hb dX7_revoke_5 (by decide) (fun c2 => ?_) (fun c2 => ?_)
  · have hf := ie hf c2
    refine lv_aload_n hx hb dX7_revoke_10 rfl (lv_at hl 0 rfl) ?_
    refine lv_dup hx hb dX7_revoke_11 rfl ?_
    obtain ⟨z3, e3, hf⟩ := ob hf
    refine r_gI C hw e3 ck7 rfl (by decide) w94 dX7_revoke_12 ?_
    refine lv_iload_n hx hb dX7_revoke_15 rfl (lv_at hl 1 rfl) ?_
    obtain ⟨z4, h4, e4, hf⟩ := ob2 hf
    refine r_callS C hw (mX7_bitOfLease e4) kXX7_bitOfLease w649 w650 ⟨Nat.le_of_ble_eq_true rfl, Nat.le_of_ble_eq_true rfl⟩ rfl hl.1 (rest := [.int z3, .ref x0]) rfl (Nat.le_of_ble_eq_true rfl) dX7_revoke_16 (mc := 0) (ms := 0) rfl rfl ⟨by show _ + 0 ≤ 0; omega, by show _ + 0 ≤ 0; omega⟩ (fun H locs hw => ?_)
    refine W.eq (g2 := F0 m 19 ls [.int z4, .int z3, .ref x0]) rfl ?_
    refine lv_iconst (v := (-1 : Int32)) hx hb dX7_revoke_19 (by decide) ?_
    refine lv_ixor hx hb dX7_revoke_20 ?_
    refine lv_iand hx hb dX7_revoke_21 ?_
    obtain ⟨h5, e5, hf⟩ := ob hf
    refine r_pI C hw e5 ck7 rfl (by decide) rfl w94 (Or.inl rfl) dX7_revoke_22 (fun H locs hw => ?_)
    refine lv_iconst (v := (0 : Int32)) hx hb dX7_revoke_25 (by decide) ?_
    refine lv_istore_n (lv' := [(2, .int (0 : Int32)), (0, .ref x0), (1, .int x1)]) hx hb dX7_revoke_26 rfl hl (by decide) rfl (fun ls hl => ?_)
    refine lv_iconst (v := (0 : Int32)) hx hb dX7_revoke_27 (by decide) ?_
    refine lv_istore_n (lv' := [(3, .int (0 : Int32)), (2, .int (0 : Int32)), (0, .ref x0), (1, .int x1)]) hx hb dX7_revoke_28 rfl hl (by decide) rfl (fun ls hl => ?_)
    exact bX7_revoke_29 C hn LF _ _ _ _ _ _ hf _ _ _ _ _ (by omega) (by omega) hw (lv_sub hl [2, 3, 1, 0] rfl)
  · have hf := ip hf c2
    refine lv_iconst (v := (-1 : Int32)) hx hb dX7_revoke_8 (by decide) ?_
    obtain ⟨rfl, rfl⟩ := sp hf
    exact r_iret C hw rfl rfl (by omega) (by omega) dX7_revoke_9
theorem kXX7_revoke : MK yX7_revoke cX7_revoke 4 (some .int) 1 := ⟨w697, w5, by decide +kernel⟩
theorem mX7_revoke {D : va_G} {cy : Nat → ClassId} {s0 : Nat} {l : Launch} {x0 : Nat} {x1 : Int32} {h : Hp} {v : Int32} {h1 : Hp} (hf : fX7_revoke x0 x1 h = some (v, h1)) : MT D cy s0 l yX7_revoke cX7_revoke 4 (some .int) rX7_revoke [.ref x0, .int x1] h (some (.int v)) h1 := by
  refine MT.of (by decide +kernel) (Nat.le_of_ble_eq_true rfl) ?_
  intro p e s m below meth c H locs ls C hn hw hl
  exact bX7_revoke C hn _ _ _ _ hf _ _ _ _ _ (Nat.le_of_ble_eq_true rfl) (Nat.le_of_ble_eq_true rfl) hw hl
abbrev rX7_renew : Room := { frames := 2, cells := 0, slots := 0, locals := 41 }
abbrev pX7_renew (D : va_G) (cy : Nat → ClassId) (s0 : Nat) (p : Program) (l : Launch) (e : Env) (s : State) (m : MethodId) (args : Array Value) (below : List Frame) (meth : Method) (c : Code) (r : Int32 × Hp) (x0 : Nat) (x1 : Int32) (x2 : Int32) (h : Hp) : Prop := ∀ (H : Heap) (locs : List Loc) (ls : Array Slot) (cells slots : Nat), cells + (0) ≤ 0 → slots + (0) ≤ 0 → WS D cy s0 s h H locs → lv_has ls 3 [(0, .ref x0), (1, .int x1), (2, .int x2)] → W p l e rX7_renew s m args below meth c H locs cells slots (MQ below (QQ D cy s0 (some (.int r.1)) r.2) args s 0 0 (fun q => s0 ≤ q)) (F0 m 0 ls [])
set_option maxRecDepth 100000 in
set_option maxHeartbeats 4000000 in
theorem bX7_renew {D : va_G} {cy : Nat → ClassId} {s0 : Nat} {p : Program} {l : Launch} {e : Env} {s : State} {m : MethodId} {args : Array Value} {below : List Frame} {meth : Method} {c : Code} (C : CX D cy s0 p s m args meth c cX7_renew 3 RX7 (some .int)) (hn : meth.name = "renew") : ∀ (x0 : Nat) (x1 : Int32) (x2 : Int32) (h : Hp) (r : Int32 × Hp), fX7_renew x0 x1 x2 h = some r → pX7_renew D cy s0 p l e s m args below meth c r x0 x1 x2 h := by
  intro x0 x1 x2 h ⟨rv, rh⟩ hf H locs ls cells slots hc hs hw hl
  unfold fX7_renew at hf
  have hx := C.1
  have hb := C.2.1
  refine lv_aload_n hx hb dX7_renew_0 rfl (lv_at hl 0 rfl) ?_
  refine lv_iload_n hx hb dX7_renew_1 rfl (lv_at hl 1 rfl) ?_
  obtain ⟨kb1, hf⟩ := ig hf
  obtain ⟨z1, h1, e1, hf⟩ := ob2 hf
  refine r_callV C hw (mX7_hasLease e1) kXX7_hasLease ck7 rfl kb1 w642 w644 v20 ⟨Nat.le_of_ble_eq_true rfl, Nat.le_of_ble_eq_true rfl⟩ rfl hl.1 (rest := []) rfl (Nat.le_of_ble_eq_true rfl) dX7_renew_2 (mc := 0) (ms := 0) rfl rfl ⟨by show _ + 0 ≤ 0; omega, by show _ + 0 ≤ 0; omega⟩ (fun H locs hw => ?_)
  refine W.eq (g2 := F0 m 5 ls [.int z1]) rfl ?_
  refine lv_if_ne (tgt := 10) hx hb dX7_renew_5 (by decide) (fun c2 => ?_) (fun c2 => ?_)
  · have hf := ie hf c2
    refine lv_aload_n hx hb dX7_renew_10 rfl (lv_at hl 0 rfl) ?_
    obtain ⟨z3, e3, hf⟩ := ob hf
    refine r_gR C hw e3 ck7 rfl (by decide) w95 dX7_renew_11 ?_
    cases z3 with
    | none =>
      have hf := on_n hf
      cases hf
    | some a4 =>
      have hf := on_s hf
      refine W.eq (g2 := F0 m 14 ls [.ref a4]) rfl ?_
      refine lv_iload_n hx hb dX7_renew_14 rfl (lv_at hl 1 rfl) ?_
      refine lv_aload_n hx hb dX7_renew_15 rfl (lv_at hl 0 rfl) ?_
      obtain ⟨z5, e5, hf⟩ := ob hf
      refine r_gI C hw e5 ck7 rfl (by decide) w86 dX7_renew_16 ?_
      refine lv_iload_n hx hb dX7_renew_19 rfl (lv_at hl 2 rfl) ?_
      refine lv_iadd hx hb dX7_renew_20 ?_
      obtain ⟨h6, e6, hf⟩ := ob hf
      refine r_iast C hw e6 dX7_renew_21 (fun H locs hw => ?_)
      refine lv_iconst (v := (1 : Int32)) hx hb dX7_renew_22 (by decide) ?_
      obtain ⟨rfl, rfl⟩ := sp hf
      exact r_iret C hw rfl rfl (by omega) (by omega) dX7_renew_23
  · have hf := ip hf c2
    refine lv_iconst (v := (0 : Int32)) hx hb dX7_renew_8 (by decide) ?_
    obtain ⟨rfl, rfl⟩ := sp hf
    exact r_iret C hw rfl rfl (by omega) (by omega) dX7_renew_9
theorem kXX7_renew : MK yX7_renew cX7_renew 3 (some .int) 2 := ⟨w701, w5, by decide +kernel⟩
theorem mX7_renew {D : va_G} {cy : Nat → ClassId} {s0 : Nat} {l : Launch} {x0 : Nat} {x1 : Int32} {x2 : Int32} {h : Hp} {v : Int32} {h1 : Hp} (hf : fX7_renew x0 x1 x2 h = some (v, h1)) : MT D cy s0 l yX7_renew cX7_renew 3 (some .int) rX7_renew [.ref x0, .int x1, .int x2] h (some (.int v)) h1 := by
  refine MT.of (by decide +kernel) (Nat.le_of_ble_eq_true rfl) ?_
  intro p e s m below meth c H locs ls C hn hw hl
  exact bX7_renew C hn _ _ _ _ _ hf _ _ _ _ _ (Nat.le_of_ble_eq_true rfl) (Nat.le_of_ble_eq_true rfl) hw hl
abbrev rX7_tick : Room := { frames := 3, cells := 0, slots := 0, locals := 66 }
abbrev pX7_tick_45 (D : va_G) (cy : Nat → ClassId) (s0 : Nat) (p : Program) (l : Launch) (e : Env) (s : State) (m : MethodId) (args : Array Value) (below : List Frame) (meth : Method) (c : Code) (r : Int32 × Hp) (x0 : Nat) (x1 : Int32) (h : Hp) : Prop := ∀ (H : Heap) (locs : List Loc) (ls : Array Slot) (cells slots : Nat), cells + (0) ≤ 0 → slots + (0) ≤ 0 → WS D cy s0 s h H locs → lv_has ls 2 [(0, .ref x0), (1, .int x1)] → W p l e rX7_tick s m args below meth c H locs cells slots (MQ below (QQ D cy s0 (some (.int r.1)) r.2) args s 0 0 (fun q => s0 ≤ q)) (F0 m 45 ls [])
abbrev pX7_tick_12 (D : va_G) (cy : Nat → ClassId) (s0 : Nat) (p : Program) (l : Launch) (e : Env) (s : State) (m : MethodId) (args : Array Value) (below : List Frame) (meth : Method) (c : Code) (r : Int32 × Hp) (x0 : Nat) (x1 : Int32) (h : Hp) : Prop := ∀ (H : Heap) (locs : List Loc) (ls : Array Slot) (cells slots : Nat), cells + (0) ≤ 0 → slots + (0) ≤ 0 → WS D cy s0 s h H locs → lv_has ls 2 [(0, .ref x0), (1, .int x1)] → W p l e rX7_tick s m args below meth c H locs cells slots (MQ below (QQ D cy s0 (some (.int r.1)) r.2) args s 0 0 (fun q => s0 ≤ q)) (F0 m 12 ls [])
abbrev pX7_tick (D : va_G) (cy : Nat → ClassId) (s0 : Nat) (p : Program) (l : Launch) (e : Env) (s : State) (m : MethodId) (args : Array Value) (below : List Frame) (meth : Method) (c : Code) (r : Int32 × Hp) (x0 : Nat) (h : Hp) : Prop := ∀ (H : Heap) (locs : List Loc) (ls : Array Slot) (cells slots : Nat), cells + (0) ≤ 0 → slots + (0) ≤ 0 → WS D cy s0 s h H locs → lv_has ls 2 [(0, .ref x0)] → W p l e rX7_tick s m args below meth c H locs cells slots (MQ below (QQ D cy s0 (some (.int r.1)) r.2) args s 0 0 (fun q => s0 ≤ q)) (F0 m 0 ls [])
set_option maxRecDepth 100000 in
set_option maxHeartbeats 4000000 in
theorem bX7_tick_45 {D : va_G} {cy : Nat → ClassId} {s0 : Nat} {p : Program} {l : Launch} {e : Env} {s : State} {m : MethodId} {args : Array Value} {below : List Frame} {meth : Method} {c : Code} (C : CX D cy s0 p s m args meth c cX7_tick 2 RX7 (some .int)) (hn : meth.name = "tick") {k12 : Nat → Int32 → Hp → Option (Int32 × Hp)} (hk12 : ∀ (x0 : Nat) (x1 : Int32) (h : Hp) (r : Int32 × Hp), k12 x0 x1 h = some r → pX7_tick_12 D cy s0 p l e s m args below meth c r x0 x1 h) : ∀ (x0 : Nat) (x1 : Int32) (h : Hp) (r : Int32 × Hp), fX7_tick_45 k12 x0 x1 h = some r → pX7_tick_45 D cy s0 p l e s m args below meth c r x0 x1 h := by
  intro x0 x1 h ⟨rv, rh⟩ hf H locs ls cells slots hc hs hw hl
  unfold fX7_tick_45 at hf
  have hx := C.1
  have hb := C.2.1
  refine lv_iinc (v := (x1 + (1 : Int32))) (lv' := [(1, .int (x1 + (1 : Int32))), (0, .ref x0)]) hx hb dX7_tick_45 hl (k := 1) rfl rfl (by decide) rfl (fun ls hl => ?_)
  refine lv_goto (tgt := 12) hx hb dX7_tick_48 (by decide) ?_
  exact hk12 _ _ _ _ hf _ _ _ _ _ (by omega) (by omega) hw (lv_sub hl [1, 0] rfl)
set_option maxRecDepth 100000 in
set_option maxHeartbeats 4000000 in
theorem bX7_tick_12_body {D : va_G} {cy : Nat → ClassId} {s0 : Nat} {p : Program} {l : Launch} {e : Env} {s : State} {m : MethodId} {args : Array Value} {below : List Frame} {meth : Method} {c : Code} (C : CX D cy s0 p s m args meth c cX7_tick 2 RX7 (some .int)) (hn : meth.name = "tick") {k12 : Nat → Int32 → Hp → Option (Int32 × Hp)} (hk12 : ∀ (x0 : Nat) (x1 : Int32) (h : Hp) (r : Int32 × Hp), k12 x0 x1 h = some r → pX7_tick_12 D cy s0 p l e s m args below meth c r x0 x1 h) : ∀ (x0 : Nat) (x1 : Int32) (h : Hp) (r : Int32 × Hp), fX7_tick_12_body k12 x0 x1 h = some r → pX7_tick_12 D cy s0 p l e s m args below meth c r x0 x1 h := by
  intro x0 x1 h ⟨rv, rh⟩ hf H locs ls cells slots hc hs hw hl
  unfold fX7_tick_12_body at hf
  have hx := C.1
  have hb := C.2.1
  refine lv_iload_n hx hb dX7_tick_12 rfl (lv_at hl 1 rfl) ?_
  refine lv_bipush (v := (8 : Int32)) hx hb dX7_tick_13 (by decide) ?_
  refine lv_icmp_gt (tgt := 51) hx hb dX7_tick_15 (by decide) (fun c1 => ?_) (fun c1 => ?_)
  · have hf := ip hf c1
    refine lv_aload_n hx hb dX7_tick_51 rfl (lv_at hl 0 rfl) ?_
    obtain ⟨z2, e2, hf⟩ := ob hf
    refine r_gI C hw e2 ck7 rfl (by decide) w86 dX7_tick_52 ?_
    obtain ⟨rfl, rfl⟩ := sp hf
    exact r_iret C hw rfl rfl (by omega) (by omega) dX7_tick_55
  · have hf := ie hf c1
    refine lv_aload_n hx hb dX7_tick_18 rfl (lv_at hl 0 rfl) ?_
    refine lv_iload_n hx hb dX7_tick_19 rfl (lv_at hl 1 rfl) ?_
    obtain ⟨kb3, hf⟩ := ig hf
    obtain ⟨z3, h3, e3, hf⟩ := ob2 hf
    refine r_callV C hw (mX7_hasLease e3) kXX7_hasLease ck7 rfl kb3 w642 w644 v20 ⟨Nat.le_of_ble_eq_true rfl, Nat.le_of_ble_eq_true rfl⟩ rfl hl.1 (rest := []) rfl (Nat.le_of_ble_eq_true rfl) dX7_tick_20 (mc := 0) (ms := 0) rfl rfl ⟨by show _ + 0 ≤ 0; omega, by show _ + 0 ≤ 0; omega⟩ (fun H locs hw => ?_)
    refine W.eq (g2 := F0 m 23 ls [.int z3]) rfl ?_
    refine lv_if_eq (tgt := 45) hx hb dX7_tick_23 (by decide) (fun c4 => ?_) (fun c4 => ?_)
    · have hf := ip hf c4
      exact bX7_tick_45 C hn hk12 _ _ _ _ hf _ _ _ _ _ (by omega) (by omega) hw (lv_sub hl [0, 1] rfl)
    · have hf := ie hf c4
      refine lv_aload_n hx hb dX7_tick_26 rfl (lv_at hl 0 rfl) ?_
      obtain ⟨z5, e5, hf⟩ := ob hf
      refine r_gR C hw e5 ck7 rfl (by decide) w95 dX7_tick_27 ?_
      cases z5 with
      | none =>
        have hf := on_n hf
        cases hf
      | some a6 =>
        have hf := on_s hf
        refine W.eq (g2 := F0 m 30 ls [.ref a6]) rfl ?_
        refine lv_iload_n hx hb dX7_tick_30 rfl (lv_at hl 1 rfl) ?_
        obtain ⟨z7, e7, hf⟩ := ob hf
        refine r_iald C hw e7 dX7_tick_31 ?_
        refine lv_aload_n hx hb dX7_tick_32 rfl (lv_at hl 0 rfl) ?_
        obtain ⟨z8, e8, hf⟩ := ob hf
        refine r_gI C hw e8 ck7 rfl (by decide) w86 dX7_tick_33 ?_
        refine lv_icmp_gt (tgt := 45) hx hb dX7_tick_36 (by decide) (fun c9 => ?_) (fun c9 => ?_)
        · have hf := ip hf c9
          exact bX7_tick_45 C hn hk12 _ _ _ _ hf _ _ _ _ _ (by omega) (by omega) hw (lv_sub hl [0, 1] rfl)
        · have hf := ie hf c9
          refine lv_aload_n hx hb dX7_tick_39 rfl (lv_at hl 0 rfl) ?_
          refine lv_iload_n hx hb dX7_tick_40 rfl (lv_at hl 1 rfl) ?_
          obtain ⟨kb10, hf⟩ := ig hf
          obtain ⟨z10, h10, e10, hf⟩ := ob2 hf
          refine r_callV C hw (mX7_revoke e10) kXX7_revoke ck7 rfl kb10 w694 w696 v28 ⟨Nat.le_of_ble_eq_true rfl, Nat.le_of_ble_eq_true rfl⟩ rfl hl.1 (rest := []) rfl (Nat.le_of_ble_eq_true rfl) dX7_tick_41 (mc := 0) (ms := 0) rfl rfl ⟨by show _ + 0 ≤ 0; omega, by show _ + 0 ≤ 0; omega⟩ (fun H locs hw => ?_)
          refine W.eq (g2 := F0 m 44 ls [.int z10]) rfl ?_
          refine lv_pop hx hb dX7_tick_44 rfl ?_
          exact bX7_tick_45 C hn hk12 _ _ _ _ hf _ _ _ _ _ (by omega) (by omega) hw (lv_sub hl [0, 1] rfl)
set_option maxRecDepth 100000 in
set_option maxHeartbeats 4000000 in
theorem bX7_tick_12 {D : va_G} {cy : Nat → ClassId} {s0 : Nat} {p : Program} {l : Launch} {e : Env} {s : State} {m : MethodId} {args : Array Value} {below : List Frame} {meth : Method} {c : Code} (C : CX D cy s0 p s m args meth c cX7_tick 2 RX7 (some .int)) (hn : meth.name = "tick") : ∀ (n : Nat) (x0 : Nat) (x1 : Int32) (h : Hp) (r : Int32 × Hp), fX7_tick_12 n x0 x1 h = some r → pX7_tick_12 D cy s0 p l e s m args below meth c r x0 x1 h := by
  intro n
  induction n with
  | zero => intro x0 x1 h r hf; exact absurd hf (fun q => by cases q)
  | succ n ih => exact bX7_tick_12_body C hn ih
set_option maxRecDepth 100000 in
set_option maxHeartbeats 4000000 in
theorem bX7_tick {D : va_G} {cy : Nat → ClassId} {s0 : Nat} {p : Program} {l : Launch} {e : Env} {s : State} {m : MethodId} {args : Array Value} {below : List Frame} {meth : Method} {c : Code} (C : CX D cy s0 p s m args meth c cX7_tick 2 RX7 (some .int)) (hn : meth.name = "tick") : ∀ (x0 : Nat) (h : Hp) (r : Int32 × Hp), fX7_tick x0 h = some r → pX7_tick D cy s0 p l e s m args below meth c r x0 h := by
  intro x0 h ⟨rv, rh⟩ hf H locs ls cells slots hc hs hw hl
  unfold fX7_tick at hf
  have hx := C.1
  have hb := C.2.1
  refine lv_aload_n hx hb dX7_tick_0 rfl (lv_at hl 0 rfl) ?_
  refine lv_dup hx hb dX7_tick_1 rfl ?_
  obtain ⟨z1, e1, hf⟩ := ob hf
  refine r_gI C hw e1 ck7 rfl (by decide) w86 dX7_tick_2 ?_
  refine lv_iconst (v := (1 : Int32)) hx hb dX7_tick_5 (by decide) ?_
  refine lv_iadd hx hb dX7_tick_6 ?_
  obtain ⟨h2, e2, hf⟩ := ob hf
  refine r_pI C hw e2 ck7 rfl (by decide) rfl w86 (Or.inl rfl) dX7_tick_7 (fun H locs hw => ?_)
  refine lv_iconst (v := (1 : Int32)) hx hb dX7_tick_10 (by decide) ?_
  refine lv_istore_n (lv' := [(1, .int (1 : Int32)), (0, .ref x0)]) hx hb dX7_tick_11 rfl hl (by decide) rfl (fun ls hl => ?_)
  exact bX7_tick_12 C hn LF _ _ _ _ hf _ _ _ _ _ (by omega) (by omega) hw (lv_sub hl [1, 0] rfl)
theorem kXX7_tick : MK yX7_tick cX7_tick 2 (some .int) 0 := ⟨w705, w5, by decide +kernel⟩
theorem mX7_tick {D : va_G} {cy : Nat → ClassId} {s0 : Nat} {l : Launch} {x0 : Nat} {h : Hp} {v : Int32} {h1 : Hp} (hf : fX7_tick x0 h = some (v, h1)) : MT D cy s0 l yX7_tick cX7_tick 2 (some .int) rX7_tick [.ref x0] h (some (.int v)) h1 := by
  refine MT.of (by decide +kernel) (Nat.le_of_ble_eq_true rfl) ?_
  intro p e s m below meth c H locs ls C hn hw hl
  exact bX7_tick C hn _ _ _ hf _ _ _ _ _ (Nat.le_of_ble_eq_true rfl) (Nat.le_of_ble_eq_true rfl) hw hl
abbrev rX7_isPut : Room := { frames := 0, cells := 0, slots := 0, locals := 0 }
abbrev pX7_isPut (D : va_G) (cy : Nat → ClassId) (s0 : Nat) (p : Program) (l : Launch) (e : Env) (s : State) (m : MethodId) (args : Array Value) (below : List Frame) (meth : Method) (c : Code) (r : Int32 × Hp) (x0 : Int64) (h : Hp) : Prop := ∀ (H : Heap) (locs : List Loc) (ls : Array Slot) (cells slots : Nat), cells + (0) ≤ 0 → slots + (0) ≤ 0 → WS D cy s0 s h H locs → lv_has ls 2 [(0, .long x0)] → W p l e rX7_isPut s m args below meth c H locs cells slots (MQ below (QQ D cy s0 (some (.int r.1)) r.2) args s 0 0 (fun q => s0 ≤ q)) (F0 m 0 ls [])
set_option maxRecDepth 100000 in
set_option maxHeartbeats 4000000 in
theorem bX7_isPut {D : va_G} {cy : Nat → ClassId} {s0 : Nat} {p : Program} {l : Launch} {e : Env} {s : State} {m : MethodId} {args : Array Value} {below : List Frame} {meth : Method} {c : Code} (C : CX D cy s0 p s m args meth c cX7_isPut 2 RX7 (some .boolean)) (hn : meth.name = "isPut") : ∀ (x0 : Int64) (h : Hp) (r : Int32 × Hp), fX7_isPut x0 h = some r → pX7_isPut D cy s0 p l e s m args below meth c r x0 h := by
  intro x0 h ⟨rv, rh⟩ hf H locs ls cells slots hc hs hw hl
  unfold fX7_isPut at hf
  have hx := C.1
  have hb := C.2.1
  refine lv_lload_n hx hb dX7_isPut_0 rfl (lv_at hl 0 rfl) ?_
  refine lv_lconst (v := (0 : Int64)) hx hb dX7_isPut_1 rfl ?_
  refine W.lcmp hx hb dX7_isPut_2 ?_
  refine lv_if_lt (tgt := 10) hx hb dX7_isPut_3 (by decide) (fun c1 => ?_) (fun c1 => ?_)
  · have hf := ip hf c1
    refine lv_iconst (v := (0 : Int32)) hx hb dX7_isPut_10 (by decide) ?_
    obtain ⟨rfl, rfl⟩ := sp hf
    exact r_iret C hw rfl (nz (Or.inl rfl)) (by omega) (by omega) dX7_isPut_11
  · have hf := ie hf c1
    refine lv_iconst (v := (1 : Int32)) hx hb dX7_isPut_6 (by decide) ?_
    refine lv_goto (tgt := 11) hx hb dX7_isPut_7 (by decide) ?_
    obtain ⟨rfl, rfl⟩ := sp hf
    exact r_iret C hw rfl (nz (Or.inr rfl)) (by omega) (by omega) dX7_isPut_11
theorem kXX7_isPut : MK yX7_isPut cX7_isPut 2 (some .boolean) 1 := ⟨w719, w5, by decide +kernel⟩
theorem mX7_isPut {D : va_G} {cy : Nat → ClassId} {s0 : Nat} {l : Launch} {x0 : Int64} {h : Hp} {v : Int32} {h1 : Hp} (hf : fX7_isPut x0 h = some (v, h1)) : MT D cy s0 l yX7_isPut cX7_isPut 2 (some .boolean) rX7_isPut [.long x0] h (some (.int v)) h1 := by
  refine MT.of (by decide +kernel) (Nat.le_of_ble_eq_true rfl) ?_
  intro p e s m below meth c H locs ls C hn hw hl
  exact bX7_isPut C hn _ _ _ hf _ _ _ _ _ (Nat.le_of_ble_eq_true rfl) (Nat.le_of_ble_eq_true rfl) hw hl
abbrev rX7_revisionOf : Room := { frames := 1, cells := 0, slots := 0, locals := 21 }
abbrev pX7_revisionOf (D : va_G) (cy : Nat → ClassId) (s0 : Nat) (p : Program) (l : Launch) (e : Env) (s : State) (m : MethodId) (args : Array Value) (below : List Frame) (meth : Method) (c : Code) (r : Int32 × Hp) (x0 : Int64) (h : Hp) : Prop := ∀ (H : Heap) (locs : List Loc) (ls : Array Slot) (cells slots : Nat), cells + (0) ≤ 0 → slots + (0) ≤ 0 → WS D cy s0 s h H locs → lv_has ls 2 [(0, .long x0)] → W p l e rX7_revisionOf s m args below meth c H locs cells slots (MQ below (QQ D cy s0 (some (.int r.1)) r.2) args s 0 0 (fun q => s0 ≤ q)) (F0 m 0 ls [])
set_option maxRecDepth 100000 in
set_option maxHeartbeats 4000000 in
theorem bX7_revisionOf {D : va_G} {cy : Nat → ClassId} {s0 : Nat} {p : Program} {l : Launch} {e : Env} {s : State} {m : MethodId} {args : Array Value} {below : List Frame} {meth : Method} {c : Code} (C : CX D cy s0 p s m args meth c cX7_revisionOf 2 RX7 (some .int)) (hn : meth.name = "revisionOf") : ∀ (x0 : Int64) (h : Hp) (r : Int32 × Hp), fX7_revisionOf x0 h = some r → pX7_revisionOf D cy s0 p l e s m args below meth c r x0 h := by
  intro x0 h ⟨rv, rh⟩ hf H locs ls cells slots hc hs hw hl
  unfold fX7_revisionOf at hf
  have hx := C.1
  have hb := C.2.1
  refine lv_lload_n hx hb dX7_revisionOf_0 rfl (lv_at hl 0 rfl) ?_
  obtain ⟨z1, h1, e1, hf⟩ := ob2 hf
  refine r_callS C hw (mX7_isPut e1) kXX7_isPut w717 w718 ⟨Nat.le_of_ble_eq_true rfl, Nat.le_of_ble_eq_true rfl⟩ rfl hl.1 (rest := []) rfl (Nat.le_of_ble_eq_true rfl) dX7_revisionOf_1 (mc := 0) (ms := 0) rfl rfl ⟨by show _ + 0 ≤ 0; omega, by show _ + 0 ≤ 0; omega⟩ (fun H locs hw => ?_)
  refine W.eq (g2 := F0 m 4 ls [.int z1]) rfl ?_
  refine lv_if_eq (tgt := 14) hx hb dX7_revisionOf_4 (by decide) (fun c2 => ?_) (fun c2 => ?_)
  · have hf := ip hf c2
    refine lv_ldc2 (v := (-1 : Int64)) hx hb C.2.2.2.1 (C.2.2.2.2.1 _ w677) dX7_revisionOf_14 ?_
    refine lv_lload_n hx hb dX7_revisionOf_17 rfl (lv_at hl 0 rfl) ?_
    refine lv_lsub hx hb dX7_revisionOf_18 ?_
    refine lv_bipush (v := (6 : Int32)) hx hb dX7_revisionOf_19 (by decide) ?_
    refine lv_lshr (v := (((-1 : Int64) - x0) >>> ((6 : Int32).toInt64 &&& 63))) hx hb dX7_revisionOf_21 rfl ?_
    refine lv_l2i (v := ((((-1 : Int64) - x0) >>> ((6 : Int32).toInt64 &&& 63)).toInt32)) hx hb dX7_revisionOf_22 rfl ?_
    obtain ⟨rfl, rfl⟩ := sp hf
    exact r_iret C hw rfl rfl (by omega) (by omega) dX7_revisionOf_23
  · have hf := ie hf c2
    refine lv_lload_n hx hb dX7_revisionOf_7 rfl (lv_at hl 0 rfl) ?_
    refine lv_bipush (v := (38 : Int32)) hx hb dX7_revisionOf_8 (by decide) ?_
    refine lv_lshr (v := (x0 >>> ((38 : Int32).toInt64 &&& 63))) hx hb dX7_revisionOf_10 rfl ?_
    refine lv_goto (tgt := 22) hx hb dX7_revisionOf_11 (by decide) ?_
    refine lv_l2i (v := ((x0 >>> ((38 : Int32).toInt64 &&& 63)).toInt32)) hx hb dX7_revisionOf_22 rfl ?_
    obtain ⟨rfl, rfl⟩ := sp hf
    exact r_iret C hw rfl rfl (by omega) (by omega) dX7_revisionOf_23
theorem kXX7_revisionOf : MK yX7_revisionOf cX7_revisionOf 2 (some .int) 1 := ⟨w716, w5, by decide +kernel⟩
theorem mX7_revisionOf {D : va_G} {cy : Nat → ClassId} {s0 : Nat} {l : Launch} {x0 : Int64} {h : Hp} {v : Int32} {h1 : Hp} (hf : fX7_revisionOf x0 h = some (v, h1)) : MT D cy s0 l yX7_revisionOf cX7_revisionOf 2 (some .int) rX7_revisionOf [.long x0] h (some (.int v)) h1 := by
  refine MT.of (by decide +kernel) (Nat.le_of_ble_eq_true rfl) ?_
  intro p e s m below meth c H locs ls C hn hw hl
  exact bX7_revisionOf C hn _ _ _ hf _ _ _ _ _ (Nat.le_of_ble_eq_true rfl) (Nat.le_of_ble_eq_true rfl) hw hl
abbrev rX7_keyOf : Room := { frames := 1, cells := 0, slots := 0, locals := 21 }
abbrev pX7_keyOf (D : va_G) (cy : Nat → ClassId) (s0 : Nat) (p : Program) (l : Launch) (e : Env) (s : State) (m : MethodId) (args : Array Value) (below : List Frame) (meth : Method) (c : Code) (r : Int32 × Hp) (x0 : Int64) (h : Hp) : Prop := ∀ (H : Heap) (locs : List Loc) (ls : Array Slot) (cells slots : Nat), cells + (0) ≤ 0 → slots + (0) ≤ 0 → WS D cy s0 s h H locs → lv_has ls 2 [(0, .long x0)] → W p l e rX7_keyOf s m args below meth c H locs cells slots (MQ below (QQ D cy s0 (some (.int r.1)) r.2) args s 0 0 (fun q => s0 ≤ q)) (F0 m 0 ls [])
set_option maxRecDepth 100000 in
set_option maxHeartbeats 4000000 in
theorem bX7_keyOf {D : va_G} {cy : Nat → ClassId} {s0 : Nat} {p : Program} {l : Launch} {e : Env} {s : State} {m : MethodId} {args : Array Value} {below : List Frame} {meth : Method} {c : Code} (C : CX D cy s0 p s m args meth c cX7_keyOf 2 RX7 (some .int)) (hn : meth.name = "keyOf") : ∀ (x0 : Int64) (h : Hp) (r : Int32 × Hp), fX7_keyOf x0 h = some r → pX7_keyOf D cy s0 p l e s m args below meth c r x0 h := by
  intro x0 h ⟨rv, rh⟩ hf H locs ls cells slots hc hs hw hl
  unfold fX7_keyOf at hf
  have hx := C.1
  have hb := C.2.1
  refine lv_lload_n hx hb dX7_keyOf_0 rfl (lv_at hl 0 rfl) ?_
  obtain ⟨z1, h1, e1, hf⟩ := ob2 hf
  refine r_callS C hw (mX7_isPut e1) kXX7_isPut w717 w718 ⟨Nat.le_of_ble_eq_true rfl, Nat.le_of_ble_eq_true rfl⟩ rfl hl.1 (rest := []) rfl (Nat.le_of_ble_eq_true rfl) dX7_keyOf_1 (mc := 0) (ms := 0) rfl rfl ⟨by show _ + 0 ≤ 0; omega, by show _ + 0 ≤ 0; omega⟩ (fun H locs hw => ?_)
  refine W.eq (g2 := F0 m 4 ls [.int z1]) rfl ?_
  refine lv_if_eq (tgt := 14) hx hb dX7_keyOf_4 (by decide) (fun c2 => ?_) (fun c2 => ?_)
  · have hf := ip hf c2
    refine lv_ldc2 (v := (-1 : Int64)) hx hb C.2.2.2.1 (C.2.2.2.2.1 _ w677) dX7_keyOf_14 ?_
    refine lv_lload_n hx hb dX7_keyOf_17 rfl (lv_at hl 0 rfl) ?_
    refine lv_lsub hx hb dX7_keyOf_18 ?_
    refine lv_ldc2 (v := (63 : Int64)) hx hb C.2.2.2.1 (C.2.2.2.2.1 _ w723) dX7_keyOf_19 ?_
    refine lv_land hx hb dX7_keyOf_22 ?_
    refine lv_l2i (v := ((((-1 : Int64) - x0) &&& (63 : Int64)).toInt32)) hx hb dX7_keyOf_23 rfl ?_
    obtain ⟨rfl, rfl⟩ := sp hf
    exact r_iret C hw rfl rfl (by omega) (by omega) dX7_keyOf_24
  · have hf := ie hf c2
    refine lv_lload_n hx hb dX7_keyOf_7 rfl (lv_at hl 0 rfl) ?_
    refine lv_bipush (v := (32 : Int32)) hx hb dX7_keyOf_8 (by decide) ?_
    refine lv_lshr (v := (x0 >>> ((32 : Int32).toInt64 &&& 63))) hx hb dX7_keyOf_10 rfl ?_
    refine lv_goto (tgt := 19) hx hb dX7_keyOf_11 (by decide) ?_
    refine lv_ldc2 (v := (63 : Int64)) hx hb C.2.2.2.1 (C.2.2.2.2.1 _ w723) dX7_keyOf_19 ?_
    refine lv_land hx hb dX7_keyOf_22 ?_
    refine lv_l2i (v := (((x0 >>> ((32 : Int32).toInt64 &&& 63)) &&& (63 : Int64)).toInt32)) hx hb dX7_keyOf_23 rfl ?_
    obtain ⟨rfl, rfl⟩ := sp hf
    exact r_iret C hw rfl rfl (by omega) (by omega) dX7_keyOf_24
theorem kXX7_keyOf : MK yX7_keyOf cX7_keyOf 2 (some .int) 1 := ⟨w722, w5, by decide +kernel⟩
theorem mX7_keyOf {D : va_G} {cy : Nat → ClassId} {s0 : Nat} {l : Launch} {x0 : Int64} {h : Hp} {v : Int32} {h1 : Hp} (hf : fX7_keyOf x0 h = some (v, h1)) : MT D cy s0 l yX7_keyOf cX7_keyOf 2 (some .int) rX7_keyOf [.long x0] h (some (.int v)) h1 := by
  refine MT.of (by decide +kernel) (Nat.le_of_ble_eq_true rfl) ?_
  intro p e s m below meth c H locs ls C hn hw hl
  exact bX7_keyOf C hn _ _ _ hf _ _ _ _ _ (Nat.le_of_ble_eq_true rfl) (Nat.le_of_ble_eq_true rfl) hw hl
abbrev rX7_valueOf : Room := { frames := 1, cells := 0, slots := 0, locals := 21 }
abbrev pX7_valueOf (D : va_G) (cy : Nat → ClassId) (s0 : Nat) (p : Program) (l : Launch) (e : Env) (s : State) (m : MethodId) (args : Array Value) (below : List Frame) (meth : Method) (c : Code) (r : Int32 × Hp) (x0 : Int64) (h : Hp) : Prop := ∀ (H : Heap) (locs : List Loc) (ls : Array Slot) (cells slots : Nat), cells + (0) ≤ 0 → slots + (0) ≤ 0 → WS D cy s0 s h H locs → lv_has ls 2 [(0, .long x0)] → W p l e rX7_valueOf s m args below meth c H locs cells slots (MQ below (QQ D cy s0 (some (.int r.1)) r.2) args s 0 0 (fun q => s0 ≤ q)) (F0 m 0 ls [])
set_option maxRecDepth 100000 in
set_option maxHeartbeats 4000000 in
theorem bX7_valueOf {D : va_G} {cy : Nat → ClassId} {s0 : Nat} {p : Program} {l : Launch} {e : Env} {s : State} {m : MethodId} {args : Array Value} {below : List Frame} {meth : Method} {c : Code} (C : CX D cy s0 p s m args meth c cX7_valueOf 2 RX7 (some .int)) (hn : meth.name = "valueOf") : ∀ (x0 : Int64) (h : Hp) (r : Int32 × Hp), fX7_valueOf x0 h = some r → pX7_valueOf D cy s0 p l e s m args below meth c r x0 h := by
  intro x0 h ⟨rv, rh⟩ hf H locs ls cells slots hc hs hw hl
  unfold fX7_valueOf at hf
  have hx := C.1
  have hb := C.2.1
  refine lv_lload_n hx hb dX7_valueOf_0 rfl (lv_at hl 0 rfl) ?_
  obtain ⟨z1, h1, e1, hf⟩ := ob2 hf
  refine r_callS C hw (mX7_isPut e1) kXX7_isPut w717 w718 ⟨Nat.le_of_ble_eq_true rfl, Nat.le_of_ble_eq_true rfl⟩ rfl hl.1 (rest := []) rfl (Nat.le_of_ble_eq_true rfl) dX7_valueOf_1 (mc := 0) (ms := 0) rfl rfl ⟨by show _ + 0 ≤ 0; omega, by show _ + 0 ≤ 0; omega⟩ (fun H locs hw => ?_)
  refine W.eq (g2 := F0 m 4 ls [.int z1]) rfl ?_
  refine lv_if_eq (tgt := 12) hx hb dX7_valueOf_4 (by decide) (fun c2 => ?_) (fun c2 => ?_)
  · have hf := ip hf c2
    refine lv_iconst (v := (0 : Int32)) hx hb dX7_valueOf_12 (by decide) ?_
    obtain ⟨rfl, rfl⟩ := sp hf
    exact r_iret C hw rfl rfl (by omega) (by omega) dX7_valueOf_13
  · have hf := ie hf c2
    refine lv_lload_n hx hb dX7_valueOf_7 rfl (lv_at hl 0 rfl) ?_
    refine lv_l2i (v := (x0.toInt32)) hx hb dX7_valueOf_8 rfl ?_
    refine lv_goto (tgt := 13) hx hb dX7_valueOf_9 (by decide) ?_
    obtain ⟨rfl, rfl⟩ := sp hf
    exact r_iret C hw rfl rfl (by omega) (by omega) dX7_valueOf_13
theorem kXX7_valueOf : MK yX7_valueOf cX7_valueOf 2 (some .int) 1 := ⟨w726, w5, by decide +kernel⟩
theorem mX7_valueOf {D : va_G} {cy : Nat → ClassId} {s0 : Nat} {l : Launch} {x0 : Int64} {h : Hp} {v : Int32} {h1 : Hp} (hf : fX7_valueOf x0 h = some (v, h1)) : MT D cy s0 l yX7_valueOf cX7_valueOf 2 (some .int) rX7_valueOf [.long x0] h (some (.int v)) h1 := by
  refine MT.of (by decide +kernel) (Nat.le_of_ble_eq_true rfl) ?_
  intro p e s m below meth c H locs ls C hn hw hl
  exact bX7_valueOf C hn _ _ _ hf _ _ _ _ _ (Nat.le_of_ble_eq_true rfl) (Nat.le_of_ble_eq_true rfl) hw hl
abbrev rX7_forgetCompacted : Room := { frames := 2, cells := 0, slots := 0, locals := 42 }
abbrev pX7_forgetCompacted_96 (D : va_G) (cy : Nat → ClassId) (s0 : Nat) (p : Program) (l : Launch) (e : Env) (s : State) (m : MethodId) (args : Array Value) (below : List Frame) (meth : Method) (c : Code) (r : Unit × Hp) (x0 : Nat) (x1 : Int32) (h : Hp) : Prop := ∀ (H : Heap) (locs : List Loc) (ls : Array Slot) (cells slots : Nat), cells + (0) ≤ 0 → slots + (0) ≤ 0 → WS D cy s0 s h H locs → lv_has ls 3 [(0, .ref x0), (1, .int x1)] → W p l e rX7_forgetCompacted s m args below meth c H locs cells slots (MQ below (QQ D cy s0 none r.2) args s 0 0 (fun q => s0 ≤ q)) (F0 m 96 ls [])
abbrev pX7_forgetCompacted_72 (D : va_G) (cy : Nat → ClassId) (s0 : Nat) (p : Program) (l : Launch) (e : Env) (s : State) (m : MethodId) (args : Array Value) (below : List Frame) (meth : Method) (c : Code) (r : Unit × Hp) (x0 : Nat) (x1 : Int32) (x2 : Int32) (y0 : Int64) (y1 : Nat) (h : Hp) : Prop := ∀ (H : Heap) (locs : List Loc) (ls : Array Slot) (cells slots : Nat), cells + (0) ≤ 0 → slots + (0) ≤ 0 → WS D cy s0 s h H locs → lv_has ls 3 [(0, .ref x0), (1, .int x1), (2, .int x2)] → W p l e rX7_forgetCompacted s m args below meth c H locs cells slots (MQ below (QQ D cy s0 none r.2) args s 0 0 (fun q => s0 ≤ q)) (F0 m 72 ls [.long y0, .ref y1])
abbrev pX7_forgetCompacted_2 (D : va_G) (cy : Nat → ClassId) (s0 : Nat) (p : Program) (l : Launch) (e : Env) (s : State) (m : MethodId) (args : Array Value) (below : List Frame) (meth : Method) (c : Code) (r : Unit × Hp) (x0 : Nat) (x1 : Int32) (h : Hp) : Prop := ∀ (H : Heap) (locs : List Loc) (ls : Array Slot) (cells slots : Nat), cells + (0) ≤ 0 → slots + (0) ≤ 0 → WS D cy s0 s h H locs → lv_has ls 3 [(0, .ref x0), (1, .int x1)] → W p l e rX7_forgetCompacted s m args below meth c H locs cells slots (MQ below (QQ D cy s0 none r.2) args s 0 0 (fun q => s0 ≤ q)) (F0 m 2 ls [])
abbrev pX7_forgetCompacted (D : va_G) (cy : Nat → ClassId) (s0 : Nat) (p : Program) (l : Launch) (e : Env) (s : State) (m : MethodId) (args : Array Value) (below : List Frame) (meth : Method) (c : Code) (r : Unit × Hp) (x0 : Nat) (h : Hp) : Prop := ∀ (H : Heap) (locs : List Loc) (ls : Array Slot) (cells slots : Nat), cells + (0) ≤ 0 → slots + (0) ≤ 0 → WS D cy s0 s h H locs → lv_has ls 3 [(0, .ref x0)] → W p l e rX7_forgetCompacted s m args below meth c H locs cells slots (MQ below (QQ D cy s0 none r.2) args s 0 0 (fun q => s0 ≤ q)) (F0 m 0 ls [])
set_option maxRecDepth 100000 in
set_option maxHeartbeats 4000000 in
theorem bX7_forgetCompacted_96 {D : va_G} {cy : Nat → ClassId} {s0 : Nat} {p : Program} {l : Launch} {e : Env} {s : State} {m : MethodId} {args : Array Value} {below : List Frame} {meth : Method} {c : Code} (C : CX D cy s0 p s m args meth c cX7_forgetCompacted 3 RX7 none) (hn : meth.name = "forgetCompacted") : ∀ (x0 : Nat) (x1 : Int32) (h : Hp) (r : Unit × Hp), fX7_forgetCompacted_96 x0 x1 h = some r → pX7_forgetCompacted_96 D cy s0 p l e s m args below meth c r x0 x1 h := by
  intro x0 x1 h ⟨rv, rh⟩ hf H locs ls cells slots hc hs hw hl
  unfold fX7_forgetCompacted_96 at hf
  have hx := C.1
  have hb := C.2.1
  refine lv_aload_n hx hb dX7_forgetCompacted_96 rfl (lv_at hl 0 rfl) ?_
  obtain ⟨z1, e1, hf⟩ := ob hf
  refine r_gR C hw e1 ck7 rfl (by decide) w82 dX7_forgetCompacted_97 ?_
  cases z1 with
  | none =>
    have hf := on_n hf
    cases hf
  | some a2 =>
    have hf := on_s hf
    refine W.eq (g2 := F0 m 100 ls [.ref a2]) rfl ?_
    refine lv_iload_n hx hb dX7_forgetCompacted_100 rfl (lv_at hl 1 rfl) ?_
    refine lv_aload_n hx hb dX7_forgetCompacted_101 rfl (lv_at hl 0 rfl) ?_
    obtain ⟨z3, e3, hf⟩ := ob hf
    refine r_gR C hw e3 ck7 rfl (by decide) w82 dX7_forgetCompacted_102 ?_
    cases z3 with
    | none =>
      have hf := on_n hf
      cases hf
    | some a4 =>
      have hf := on_s hf
      refine W.eq (g2 := F0 m 105 ls [.ref a4, .int x1, .ref a2]) rfl ?_
      refine lv_iconst (v := (0 : Int32)) hx hb dX7_forgetCompacted_105 (by decide) ?_
      refine lv_aload_n hx hb dX7_forgetCompacted_106 rfl (lv_at hl 0 rfl) ?_
      obtain ⟨z5, e5, hf⟩ := ob hf
      refine r_gI C hw e5 ck7 rfl (by decide) w84 dX7_forgetCompacted_107 ?_
      refine lv_iload_n hx hb dX7_forgetCompacted_110 rfl (lv_at hl 1 rfl) ?_
      refine lv_isub hx hb dX7_forgetCompacted_111 ?_
      obtain ⟨h6, e6, hf⟩ := ob hf
      refine r_cpL C hw e6 hl.1 w614 w616 w615 w19 (Nat.le_of_ble_eq_true rfl) (Nat.le_of_ble_eq_true rfl) dX7_forgetCompacted_112 (fun H locs hw => ?_)
      refine lv_aload_n hx hb dX7_forgetCompacted_115 rfl (lv_at hl 0 rfl) ?_
      refine lv_dup hx hb dX7_forgetCompacted_116 rfl ?_
      obtain ⟨z7, e7, hf⟩ := ob hf
      refine r_gI C hw e7 ck7 rfl (by decide) w84 dX7_forgetCompacted_117 ?_
      refine lv_iload_n hx hb dX7_forgetCompacted_120 rfl (lv_at hl 1 rfl) ?_
      refine lv_isub hx hb dX7_forgetCompacted_121 ?_
      obtain ⟨h8, e8, hf⟩ := ob hf
      refine r_pI C hw e8 ck7 rfl (by decide) rfl w84 (Or.inl rfl) dX7_forgetCompacted_122 (fun H locs hw => ?_)
      obtain ⟨rfl, rfl⟩ := sp hf
      exact r_vret C hw rfl (by omega) (by omega) dX7_forgetCompacted_125
set_option maxRecDepth 100000 in
set_option maxHeartbeats 4000000 in
theorem bX7_forgetCompacted_72 {D : va_G} {cy : Nat → ClassId} {s0 : Nat} {p : Program} {l : Launch} {e : Env} {s : State} {m : MethodId} {args : Array Value} {below : List Frame} {meth : Method} {c : Code} (C : CX D cy s0 p s m args meth c cX7_forgetCompacted 3 RX7 none) (hn : meth.name = "forgetCompacted") {k2 : Nat → Int32 → Hp → Option (Unit × Hp)} (hk2 : ∀ (x0 : Nat) (x1 : Int32) (h : Hp) (r : Unit × Hp), k2 x0 x1 h = some r → pX7_forgetCompacted_2 D cy s0 p l e s m args below meth c r x0 x1 h) : ∀ (x0 : Nat) (x1 : Int32) (x2 : Int32) (y0 : Int64) (y1 : Nat) (h : Hp) (r : Unit × Hp), fX7_forgetCompacted_72 k2 x0 x1 x2 y0 y1 h = some r → pX7_forgetCompacted_72 D cy s0 p l e s m args below meth c r x0 x1 x2 y0 y1 h := by
  intro x0 x1 x2 y0 y1 h ⟨rv, rh⟩ hf H locs ls cells slots hc hs hw hl
  unfold fX7_forgetCompacted_72 at hf
  have hx := C.1
  have hb := C.2.1
  obtain ⟨h1, e1, hf⟩ := ob hf
  refine r_pL C hw e1 ck7 rfl (by decide) rfl w92 (Or.inl rfl) dX7_forgetCompacted_72 (fun H locs hw => ?_)
  refine lv_aload_n hx hb dX7_forgetCompacted_75 rfl (lv_at hl 0 rfl) ?_
  obtain ⟨z2, e2, hf⟩ := ob hf
  refine r_gR C hw e2 ck7 rfl (by decide) w93 dX7_forgetCompacted_76 ?_
  cases z2 with
  | none =>
    have hf := on_n hf
    cases hf
  | some a3 =>
    have hf := on_s hf
    refine W.eq (g2 := F0 m 79 ls [.ref a3]) rfl ?_
    refine lv_iload_n hx hb dX7_forgetCompacted_79 rfl (lv_at hl 2 rfl) ?_
    refine lv_aload_n hx hb dX7_forgetCompacted_80 rfl (lv_at hl 0 rfl) ?_
    obtain ⟨z4, e4, hf⟩ := ob hf
    refine r_gR C hw e4 ck7 rfl (by decide) w82 dX7_forgetCompacted_81 ?_
    cases z4 with
    | none =>
      have hf := on_n hf
      cases hf
    | some a5 =>
      have hf := on_s hf
      refine W.eq (g2 := F0 m 84 ls [.ref a5, .int x2, .ref a3]) rfl ?_
      refine lv_iload_n hx hb dX7_forgetCompacted_84 rfl (lv_at hl 1 rfl) ?_
      obtain ⟨z6, e6, hf⟩ := ob hf
      refine r_lald C hw e6 dX7_forgetCompacted_85 ?_
      obtain ⟨z7, h7, e7, hf⟩ := ob2 hf
      refine r_callS C hw (mX7_valueOf e7) kXX7_valueOf w724 w725 ⟨Nat.le_of_ble_eq_true rfl, Nat.le_of_ble_eq_true rfl⟩ rfl hl.1 (rest := [.int x2, .ref a3]) rfl (Nat.le_of_ble_eq_true rfl) dX7_forgetCompacted_86 (mc := 0) (ms := 0) rfl rfl ⟨by show _ + 0 ≤ 0; omega, by show _ + 0 ≤ 0; omega⟩ (fun H locs hw => ?_)
      refine W.eq (g2 := F0 m 89 ls [.int z7, .int x2, .ref a3]) rfl ?_
      obtain ⟨h8, e8, hf⟩ := ob hf
      refine r_iast C hw e8 dX7_forgetCompacted_89 (fun H locs hw => ?_)
      refine lv_iinc (v := (x1 + (1 : Int32))) (lv' := [(1, .int (x1 + (1 : Int32))), (0, .ref x0), (2, .int x2)]) hx hb dX7_forgetCompacted_90 hl (k := 1) rfl rfl (by decide) rfl (fun ls hl => ?_)
      refine lv_goto (tgt := 2) hx hb dX7_forgetCompacted_93 (by decide) ?_
      exact hk2 _ _ _ _ hf _ _ _ _ _ (by omega) (by omega) hw (lv_sub hl [1, 0] rfl)
set_option maxRecDepth 100000 in
set_option maxHeartbeats 4000000 in
theorem bX7_forgetCompacted_2_body {D : va_G} {cy : Nat → ClassId} {s0 : Nat} {p : Program} {l : Launch} {e : Env} {s : State} {m : MethodId} {args : Array Value} {below : List Frame} {meth : Method} {c : Code} (C : CX D cy s0 p s m args meth c cX7_forgetCompacted 3 RX7 none) (hn : meth.name = "forgetCompacted") {k2 : Nat → Int32 → Hp → Option (Unit × Hp)} (hk2 : ∀ (x0 : Nat) (x1 : Int32) (h : Hp) (r : Unit × Hp), k2 x0 x1 h = some r → pX7_forgetCompacted_2 D cy s0 p l e s m args below meth c r x0 x1 h) : ∀ (x0 : Nat) (x1 : Int32) (h : Hp) (r : Unit × Hp), fX7_forgetCompacted_2_body k2 x0 x1 h = some r → pX7_forgetCompacted_2 D cy s0 p l e s m args below meth c r x0 x1 h := by
  intro x0 x1 h ⟨rv, rh⟩ hf H locs ls cells slots hc hs hw hl
  unfold fX7_forgetCompacted_2_body at hf
  have hx := C.1
  have hb := C.2.1
  refine lv_iload_n hx hb dX7_forgetCompacted_2 rfl (lv_at hl 1 rfl) ?_
  refine lv_aload_n hx hb dX7_forgetCompacted_3 rfl (lv_at hl 0 rfl) ?_
  obtain ⟨z1, e1, hf⟩ := ob hf
  refine r_gI C hw e1 ck7 rfl (by decide) w84 dX7_forgetCompacted_4 ?_
  refine lv_icmp_ge (tgt := 96) hx hb dX7_forgetCompacted_7 (by decide) (fun c2 => ?_) (fun c2 => ?_)
  · have hf := ip hf c2
    exact bX7_forgetCompacted_96 C hn _ _ _ _ hf _ _ _ _ _ (by omega) (by omega) hw (lv_sub hl [0, 1] rfl)
  · have hf := ie hf c2
    refine lv_aload_n hx hb dX7_forgetCompacted_10 rfl (lv_at hl 0 rfl) ?_
    obtain ⟨z3, e3, hf⟩ := ob hf
    refine r_gR C hw e3 ck7 rfl (by decide) w82 dX7_forgetCompacted_11 ?_
    cases z3 with
    | none =>
      have hf := on_n hf
      cases hf
    | some a4 =>
      have hf := on_s hf
      refine W.eq (g2 := F0 m 14 ls [.ref a4]) rfl ?_
      refine lv_iload_n hx hb dX7_forgetCompacted_14 rfl (lv_at hl 1 rfl) ?_
      obtain ⟨z5, e5, hf⟩ := ob hf
      refine r_lald C hw e5 dX7_forgetCompacted_15 ?_
      obtain ⟨z6, h6, e6, hf⟩ := ob2 hf
      refine r_callS C hw (mX7_revisionOf e6) kXX7_revisionOf w714 w715 ⟨Nat.le_of_ble_eq_true rfl, Nat.le_of_ble_eq_true rfl⟩ rfl hl.1 (rest := []) rfl (Nat.le_of_ble_eq_true rfl) dX7_forgetCompacted_16 (mc := 0) (ms := 0) rfl rfl ⟨by show _ + 0 ≤ 0; omega, by show _ + 0 ≤ 0; omega⟩ (fun H locs hw => ?_)
      refine W.eq (g2 := F0 m 19 ls [.int z6]) rfl ?_
      refine lv_aload_n hx hb dX7_forgetCompacted_19 rfl (lv_at hl 0 rfl) ?_
      obtain ⟨z7, e7, hf⟩ := ob hf
      refine r_gI C hw e7 ck7 rfl (by decide) w80 dX7_forgetCompacted_20 ?_
      refine lv_icmp_gt (tgt := 96) hx hb dX7_forgetCompacted_23 (by decide) (fun c8 => ?_) (fun c8 => ?_)
      · have hf := ip hf c8
        exact bX7_forgetCompacted_96 C hn _ _ _ _ hf _ _ _ _ _ (by omega) (by omega) hw (lv_sub hl [0, 1] rfl)
      · have hf := ie hf c8
        refine lv_aload_n hx hb dX7_forgetCompacted_26 rfl (lv_at hl 0 rfl) ?_
        obtain ⟨z9, e9, hf⟩ := ob hf
        refine r_gR C hw e9 ck7 rfl (by decide) w82 dX7_forgetCompacted_27 ?_
        cases z9 with
        | none =>
          have hf := on_n hf
          cases hf
        | some a10 =>
          have hf := on_s hf
          refine W.eq (g2 := F0 m 30 ls [.ref a10]) rfl ?_
          refine lv_iload_n hx hb dX7_forgetCompacted_30 rfl (lv_at hl 1 rfl) ?_
          obtain ⟨z11, e11, hf⟩ := ob hf
          refine r_lald C hw e11 dX7_forgetCompacted_31 ?_
          obtain ⟨z12, h12, e12, hf⟩ := ob2 hf
          refine r_callS C hw (mX7_keyOf e12) kXX7_keyOf w720 w721 ⟨Nat.le_of_ble_eq_true rfl, Nat.le_of_ble_eq_true rfl⟩ rfl hl.1 (rest := []) rfl (Nat.le_of_ble_eq_true rfl) dX7_forgetCompacted_32 (mc := 0) (ms := 0) rfl rfl ⟨by show _ + 0 ≤ 0; omega, by show _ + 0 ≤ 0; omega⟩ (fun H locs hw => ?_)
          refine W.eq (g2 := F0 m 35 ls [.int z12]) rfl ?_
          refine lv_istore_n (lv' := [(2, .int z12), (0, .ref x0), (1, .int x1)]) hx hb dX7_forgetCompacted_35 rfl hl (by decide) rfl (fun ls hl => ?_)
          refine lv_aload_n hx hb dX7_forgetCompacted_36 rfl (lv_at hl 1 rfl) ?_
          refine lv_aload_n hx hb dX7_forgetCompacted_37 rfl (lv_at hl 1 rfl) ?_
          obtain ⟨z13, e13, hf⟩ := ob hf
          refine r_gR C hw e13 ck7 rfl (by decide) w82 dX7_forgetCompacted_38 ?_
          cases z13 with
          | none =>
            have hf := on_n hf
            cases hf
          | some a14 =>
            have hf := on_s hf
            refine W.eq (g2 := F0 m 41 ls [.ref a14, .ref x0]) rfl ?_
            refine lv_iload_n hx hb dX7_forgetCompacted_41 rfl (lv_at hl 2 rfl) ?_
            obtain ⟨z15, e15, hf⟩ := ob hf
            refine r_lald C hw e15 dX7_forgetCompacted_42 ?_
            obtain ⟨z16, h16, e16, hf⟩ := ob2 hf
            refine r_callS C hw (mX7_isPut e16) kXX7_isPut w717 w718 ⟨Nat.le_of_ble_eq_true rfl, Nat.le_of_ble_eq_true rfl⟩ rfl hl.1 (rest := [.ref x0]) rfl (Nat.le_of_ble_eq_true rfl) dX7_forgetCompacted_43 (mc := 0) (ms := 0) rfl rfl ⟨by show _ + 0 ≤ 0; omega, by show _ + 0 ≤ 0; omega⟩ (fun H locs hw => ?_)
            refine W.eq (g2 := F0 m 46 ls [.int z16, .ref x0]) rfl ?_
            refine lv_if_eq (tgt := 60) hx hb dX7_forgetCompacted_46 (by decide) (fun c17 => ?_) (fun c17 => ?_)
            · have hf := ip hf c17
              refine lv_aload_n hx hb dX7_forgetCompacted_60 rfl (lv_at hl 1 rfl) ?_
              obtain ⟨z18, e18, hf⟩ := ob hf
              refine r_gL C hw e18 ck7 rfl (by decide) w92 dX7_forgetCompacted_61 ?_
              refine lv_lconst (v := (1 : Int64)) hx hb dX7_forgetCompacted_64 rfl ?_
              refine lv_iload_n hx hb dX7_forgetCompacted_65 rfl (lv_at hl 0 rfl) ?_
              refine lv_lshl (v := ((1 : Int64) <<< (z12.toInt64 &&& 63))) hx hb dX7_forgetCompacted_66 rfl ?_
              refine lv_ldc2 (v := (-1 : Int64)) hx hb C.2.2.2.1 (C.2.2.2.2.1 _ w677) dX7_forgetCompacted_67 ?_
              refine lv_lxor hx hb dX7_forgetCompacted_70 ?_
              refine lv_land hx hb dX7_forgetCompacted_71 ?_
              exact bX7_forgetCompacted_72 C hn hk2 _ _ _ _ _ _ _ hf _ _ _ _ _ (by omega) (by omega) hw (lv_sub hl [1, 2, 0] rfl)
            · have hf := ie hf c17
              refine lv_aload_n hx hb dX7_forgetCompacted_49 rfl (lv_at hl 1 rfl) ?_
              obtain ⟨z19, e19, hf⟩ := ob hf
              refine r_gL C hw e19 ck7 rfl (by decide) w92 dX7_forgetCompacted_50 ?_
              refine lv_lconst (v := (1 : Int64)) hx hb dX7_forgetCompacted_53 rfl ?_
              refine lv_iload_n hx hb dX7_forgetCompacted_54 rfl (lv_at hl 0 rfl) ?_
              refine lv_lshl (v := ((1 : Int64) <<< (z12.toInt64 &&& 63))) hx hb dX7_forgetCompacted_55 rfl ?_
              refine lv_lor hx hb dX7_forgetCompacted_56 ?_
              refine lv_goto (tgt := 72) hx hb dX7_forgetCompacted_57 (by decide) ?_
              exact bX7_forgetCompacted_72 C hn hk2 _ _ _ _ _ _ _ hf _ _ _ _ _ (by omega) (by omega) hw (lv_sub hl [1, 2, 0] rfl)
set_option maxRecDepth 100000 in
set_option maxHeartbeats 4000000 in
theorem bX7_forgetCompacted_2 {D : va_G} {cy : Nat → ClassId} {s0 : Nat} {p : Program} {l : Launch} {e : Env} {s : State} {m : MethodId} {args : Array Value} {below : List Frame} {meth : Method} {c : Code} (C : CX D cy s0 p s m args meth c cX7_forgetCompacted 3 RX7 none) (hn : meth.name = "forgetCompacted") : ∀ (n : Nat) (x0 : Nat) (x1 : Int32) (h : Hp) (r : Unit × Hp), fX7_forgetCompacted_2 n x0 x1 h = some r → pX7_forgetCompacted_2 D cy s0 p l e s m args below meth c r x0 x1 h := by
  intro n
  induction n with
  | zero => intro x0 x1 h r hf; exact absurd hf (fun q => by cases q)
  | succ n ih => exact bX7_forgetCompacted_2_body C hn ih
set_option maxRecDepth 100000 in
set_option maxHeartbeats 4000000 in
theorem bX7_forgetCompacted {D : va_G} {cy : Nat → ClassId} {s0 : Nat} {p : Program} {l : Launch} {e : Env} {s : State} {m : MethodId} {args : Array Value} {below : List Frame} {meth : Method} {c : Code} (C : CX D cy s0 p s m args meth c cX7_forgetCompacted 3 RX7 none) (hn : meth.name = "forgetCompacted") : ∀ (x0 : Nat) (h : Hp) (r : Unit × Hp), fX7_forgetCompacted x0 h = some r → pX7_forgetCompacted D cy s0 p l e s m args below meth c r x0 h := by
  intro x0 h ⟨rv, rh⟩ hf H locs ls cells slots hc hs hw hl
  unfold fX7_forgetCompacted at hf
  have hx := C.1
  have hb := C.2.1
  refine lv_iconst (v := (0 : Int32)) hx hb dX7_forgetCompacted_0 (by decide) ?_
  refine lv_istore_n (lv' := [(1, .int (0 : Int32)), (0, .ref x0)]) hx hb dX7_forgetCompacted_1 rfl hl (by decide) rfl (fun ls hl => ?_)
  exact bX7_forgetCompacted_2 C hn LF _ _ _ _ hf _ _ _ _ _ (by omega) (by omega) hw (lv_sub hl [1, 0] rfl)
theorem kXX7_forgetCompacted : MK yX7_forgetCompacted cX7_forgetCompacted 3 none 0 := ⟨w713, w5, by decide +kernel⟩
theorem mX7_forgetCompacted {D : va_G} {cy : Nat → ClassId} {s0 : Nat} {l : Launch} {x0 : Nat} {h : Hp} {v : Unit} {h1 : Hp} (hf : fX7_forgetCompacted x0 h = some (v, h1)) : MT D cy s0 l yX7_forgetCompacted cX7_forgetCompacted 3 none rX7_forgetCompacted [.ref x0] h none h1 := by
  refine MT.of (by decide +kernel) (Nat.le_of_ble_eq_true rfl) ?_
  intro p e s m below meth c H locs ls C hn hw hl
  exact bX7_forgetCompacted C hn _ _ _ hf _ _ _ _ _ (Nat.le_of_ble_eq_true rfl) (Nat.le_of_ble_eq_true rfl) hw hl
