abbrev rX10_power : Room := { frames := 1, cells := 0, slots := 0, locals := 22 }
abbrev pX10_power_37 (D : va_G) (cy : Nat → ClassId) (s0 : Nat) (p : Program) (l : Launch) (e : Env) (s : State) (m : MethodId) (args : Array Value) (below : List Frame) (meth : Method) (c : Code) (r : Unit × Hp) (x0 : Nat) (x1 : Int32) (x2 : Int32) (y0 : Int32) (y1 : Nat) (h : Hp) : Prop := ∀ (H : Heap) (locs : List Loc) (ls : Array Slot) (cells slots : Nat), cells + (0) ≤ 0 → slots + (0) ≤ 0 → WS D cy s0 s h H locs → lv_has ls 3 [(0, .ref x0), (1, .int x1), (2, .int x2)] → W p l e rX10_power s m args below meth c H locs cells slots (MQ below (QQ D cy s0 none r.2) args s 0 0 (fun q => s0 ≤ q)) (F0 m 37 ls [.int y0, .ref y1])
abbrev pX10_power_32 (D : va_G) (cy : Nat → ClassId) (s0 : Nat) (p : Program) (l : Launch) (e : Env) (s : State) (m : MethodId) (args : Array Value) (below : List Frame) (meth : Method) (c : Code) (r : Unit × Hp) (x0 : Nat) (x1 : Int32) (x2 : Int32) (y0 : Nat) (h : Hp) : Prop := ∀ (H : Heap) (locs : List Loc) (ls : Array Slot) (cells slots : Nat), cells + (0) ≤ 0 → slots + (0) ≤ 0 → WS D cy s0 s h H locs → lv_has ls 3 [(0, .ref x0), (1, .int x1), (2, .int x2)] → W p l e rX10_power s m args below meth c H locs cells slots (MQ below (QQ D cy s0 none r.2) args s 0 0 (fun q => s0 ≤ q)) (F0 m 32 ls [.ref y0])
abbrev pX10_power_13 (D : va_G) (cy : Nat → ClassId) (s0 : Nat) (p : Program) (l : Launch) (e : Env) (s : State) (m : MethodId) (args : Array Value) (below : List Frame) (meth : Method) (c : Code) (r : Unit × Hp) (x0 : Nat) (x1 : Int32) (x2 : Int32) (y0 : Int32) (y1 : Nat) (h : Hp) : Prop := ∀ (H : Heap) (locs : List Loc) (ls : Array Slot) (cells slots : Nat), cells + (0) ≤ 0 → slots + (0) ≤ 0 → WS D cy s0 s h H locs → lv_has ls 3 [(0, .ref x0), (1, .int x1), (2, .int x2)] → W p l e rX10_power s m args below meth c H locs cells slots (MQ below (QQ D cy s0 none r.2) args s 0 0 (fun q => s0 ≤ q)) (F0 m 13 ls [.int y0, .ref y1])
abbrev pX10_power (D : va_G) (cy : Nat → ClassId) (s0 : Nat) (p : Program) (l : Launch) (e : Env) (s : State) (m : MethodId) (args : Array Value) (below : List Frame) (meth : Method) (c : Code) (r : Unit × Hp) (x0 : Nat) (x1 : Int32) (x2 : Int32) (h : Hp) : Prop := ∀ (H : Heap) (locs : List Loc) (ls : Array Slot) (cells slots : Nat), cells + (0) ≤ 0 → slots + (0) ≤ 0 → WS D cy s0 s h H locs → lv_has ls 3 [(0, .ref x0), (1, .int x1), (2, .int x2)] → W p l e rX10_power s m args below meth c H locs cells slots (MQ below (QQ D cy s0 none r.2) args s 0 0 (fun q => s0 ≤ q)) (F0 m 0 ls [])
set_option maxRecDepth 100000 in
set_option maxHeartbeats 4000000 in
theorem bX10_power_37 {D : va_G} {cy : Nat → ClassId} {s0 : Nat} {p : Program} {l : Launch} {e : Env} {s : State} {m : MethodId} {args : Array Value} {below : List Frame} {meth : Method} {c : Code} (C : CX D cy s0 p s m args meth c cX10_power 3 RX10 none) (hn : meth.name = "power") : ∀ (x0 : Nat) (x1 : Int32) (x2 : Int32) (y0 : Int32) (y1 : Nat) (h : Hp) (r : Unit × Hp), fX10_power_37 x0 x1 x2 y0 y1 h = some r → pX10_power_37 D cy s0 p l e s m args below meth c r x0 x1 x2 y0 y1 h := by
  intro x0 x1 x2 y0 y1 h ⟨rv, rh⟩ hf H locs ls cells slots hc hs hw hl
  unfold fX10_power_37 at hf
  have hx := C.1
  have hb := C.2.1
  refine lv_iconst (v := (2 : Int32)) hx hb dX10_power_37 (by decide) ?_
  obtain ⟨kb1, hf⟩ := ig hf
  obtain ⟨z1, h1, e1, hf⟩ := ob2 hf
  refine r_callV C hw (mX10_bad e1) kXX10_bad ck10 rfl kb1 w1132 w1134 v35 ⟨Nat.le_of_ble_eq_true rfl, Nat.le_of_ble_eq_true rfl⟩ rfl hl.1 (rest := []) rfl (Nat.le_of_ble_eq_true rfl) dX10_power_38 (mc := 0) (ms := 0) rfl rfl ⟨by show _ + 0 ≤ 0; omega, by show _ + 0 ≤ 0; omega⟩ (fun H locs hw => ?_)
  refine W.eq (g2 := F0 m 41 ls [.int z1]) rfl ?_
  refine lv_if_ne (tgt := 51) hx hb dX10_power_41 (by decide) (fun c2 => ?_) (fun c2 => ?_)
  · have hf := ie hf c2
    obtain ⟨rfl, rfl⟩ := sp hf
    exact r_vret C hw rfl (by omega) (by omega) dX10_power_51
  · have hf := ip hf c2
    refine lv_aload_n hx hb dX10_power_44 rfl (lv_at hl 0 rfl) ?_
    obtain ⟨z3, e3, hf⟩ := ob hf
    refine r_gR C hw e3 ck10 rfl (by decide) w973 dX10_power_45 ?_
    cases z3 with
    | none =>
      have hf := on_n hf
      cases hf
    | some a4 =>
      have hf := on_s hf
      refine W.eq (g2 := F0 m 48 ls [.ref a4]) rfl ?_
      refine lv_iload_n hx hb dX10_power_48 rfl (lv_at hl 1 rfl) ?_
      refine lv_iload_n hx hb dX10_power_49 rfl (lv_at hl 2 rfl) ?_
      obtain ⟨h5, e5, hf⟩ := ob hf
      refine r_iast C hw e5 dX10_power_50 (fun H locs hw => ?_)
      obtain ⟨rfl, rfl⟩ := sp hf
      exact r_vret C hw rfl (by omega) (by omega) dX10_power_51
set_option maxRecDepth 100000 in
set_option maxHeartbeats 4000000 in
theorem bX10_power_32 {D : va_G} {cy : Nat → ClassId} {s0 : Nat} {p : Program} {l : Launch} {e : Env} {s : State} {m : MethodId} {args : Array Value} {below : List Frame} {meth : Method} {c : Code} (C : CX D cy s0 p s m args meth c cX10_power 3 RX10 none) (hn : meth.name = "power") : ∀ (x0 : Nat) (x1 : Int32) (x2 : Int32) (y0 : Nat) (h : Hp) (r : Unit × Hp), fX10_power_32 x0 x1 x2 y0 h = some r → pX10_power_32 D cy s0 p l e s m args below meth c r x0 x1 x2 y0 h := by
  intro x0 x1 x2 y0 h ⟨rv, rh⟩ hf H locs ls cells slots hc hs hw hl
  unfold fX10_power_32 at hf
  have hx := C.1
  have hb := C.2.1
  refine lv_iconst (v := (1 : Int32)) hx hb dX10_power_32 (by decide) ?_
  refine lv_goto (tgt := 37) hx hb dX10_power_33 (by decide) ?_
  exact bX10_power_37 C hn _ _ _ _ _ _ _ hf _ _ _ _ _ (by omega) (by omega) hw (lv_sub hl [0, 1, 2] rfl)
set_option maxRecDepth 100000 in
set_option maxHeartbeats 4000000 in
theorem bX10_power_13 {D : va_G} {cy : Nat → ClassId} {s0 : Nat} {p : Program} {l : Launch} {e : Env} {s : State} {m : MethodId} {args : Array Value} {below : List Frame} {meth : Method} {c : Code} (C : CX D cy s0 p s m args meth c cX10_power 3 RX10 none) (hn : meth.name = "power") : ∀ (x0 : Nat) (x1 : Int32) (x2 : Int32) (y0 : Int32) (y1 : Nat) (h : Hp) (r : Unit × Hp), fX10_power_13 x0 x1 x2 y0 y1 h = some r → pX10_power_13 D cy s0 p l e s m args below meth c r x0 x1 x2 y0 y1 h := by
  intro x0 x1 x2 y0 y1 h ⟨rv, rh⟩ hf H locs ls cells slots hc hs hw hl
  unfold fX10_power_13 at hf
  have hx := C.1
  have hb := C.2.1
  refine lv_iconst (v := (1 : Int32)) hx hb dX10_power_13 (by decide) ?_
  obtain ⟨kb1, hf⟩ := ig hf
  obtain ⟨z1, h1, e1, hf⟩ := ob2 hf
  refine r_callV C hw (mX10_bad e1) kXX10_bad ck10 rfl kb1 w1132 w1134 v35 ⟨Nat.le_of_ble_eq_true rfl, Nat.le_of_ble_eq_true rfl⟩ rfl hl.1 (rest := []) rfl (Nat.le_of_ble_eq_true rfl) dX10_power_14 (mc := 0) (ms := 0) rfl rfl ⟨by show _ + 0 ≤ 0; omega, by show _ + 0 ≤ 0; omega⟩ (fun H locs hw => ?_)
  refine W.eq (g2 := F0 m 17 ls [.int z1]) rfl ?_
  refine lv_if_ne (tgt := 51) hx hb dX10_power_17 (by decide) (fun c2 => ?_) (fun c2 => ?_)
  · have hf := ie hf c2
    obtain ⟨rfl, rfl⟩ := sp hf
    exact r_vret C hw rfl (by omega) (by omega) dX10_power_51
  · have hf := ip hf c2
    refine lv_aload_n hx hb dX10_power_20 rfl (lv_at hl 0 rfl) ?_
    refine lv_iload_n hx hb dX10_power_21 rfl (lv_at hl 2 rfl) ?_
    refine lv_iconst (v := (-1 : Int32)) hx hb dX10_power_22 (by decide) ?_
    refine lv_icmp_lt (tgt := 32) hx hb dX10_power_23 (by decide) (fun c3 => ?_) (fun c3 => ?_)
    · have hf := ip hf c3
      exact bX10_power_32 C hn _ _ _ _ _ _ hf _ _ _ _ _ (by omega) (by omega) hw (lv_sub hl [0, 1, 2] rfl)
    · have hf := ie hf c3
      refine lv_iload_n hx hb dX10_power_26 rfl (lv_at hl 2 rfl) ?_
      refine lv_bipush (v := (100 : Int32)) hx hb dX10_power_27 (by decide) ?_
      refine lv_icmp_le (tgt := 36) hx hb dX10_power_29 (by decide) (fun c4 => ?_) (fun c4 => ?_)
      · have hf := ip hf c4
        refine lv_iconst (v := (0 : Int32)) hx hb dX10_power_36 (by decide) ?_
        exact bX10_power_37 C hn _ _ _ _ _ _ _ hf _ _ _ _ _ (by omega) (by omega) hw (lv_sub hl [0, 1, 2] rfl)
      · have hf := ie hf c4
        exact bX10_power_32 C hn _ _ _ _ _ _ hf _ _ _ _ _ (by omega) (by omega) hw (lv_sub hl [0, 1, 2] rfl)
set_option maxRecDepth 100000 in
set_option maxHeartbeats 4000000 in
theorem bX10_power {D : va_G} {cy : Nat → ClassId} {s0 : Nat} {p : Program} {l : Launch} {e : Env} {s : State} {m : MethodId} {args : Array Value} {below : List Frame} {meth : Method} {c : Code} (C : CX D cy s0 p s m args meth c cX10_power 3 RX10 none) (hn : meth.name = "power") : ∀ (x0 : Nat) (x1 : Int32) (x2 : Int32) (h : Hp) (r : Unit × Hp), fX10_power x0 x1 x2 h = some r → pX10_power D cy s0 p l e s m args below meth c r x0 x1 x2 h := by
  intro x0 x1 x2 h ⟨rv, rh⟩ hf H locs ls cells slots hc hs hw hl
  unfold fX10_power at hf
  have hx := C.1
  have hb := C.2.1
  refine lv_aload_n hx hb dX10_power_0 rfl (lv_at hl 0 rfl) ?_
  refine lv_iload_n hx hb dX10_power_1 rfl (lv_at hl 1 rfl) ?_
  obtain ⟨z1, h1, e1, hf⟩ := ob2 hf
  refine r_callS C hw (mX10_isNode e1) kXX10_isNode w1129 w1130 ⟨Nat.le_of_ble_eq_true rfl, Nat.le_of_ble_eq_true rfl⟩ rfl hl.1 (rest := [.ref x0]) rfl (Nat.le_of_ble_eq_true rfl) dX10_power_2 (mc := 0) (ms := 0) rfl rfl ⟨by show _ + 0 ≤ 0; omega, by show _ + 0 ≤ 0; omega⟩ (fun H locs hw => ?_)
  refine W.eq (g2 := F0 m 5 ls [.int z1, .ref x0]) rfl ?_
  refine lv_if_ne (tgt := 12) hx hb dX10_power_5 (by decide) (fun c2 => ?_) (fun c2 => ?_)
  · have hf := ie hf c2
    refine lv_iconst (v := (0 : Int32)) hx hb dX10_power_12 (by decide) ?_
    exact bX10_power_13 C hn _ _ _ _ _ _ _ hf _ _ _ _ _ (by omega) (by omega) hw (lv_sub hl [0, 1, 2] rfl)
  · have hf := ip hf c2
    refine lv_iconst (v := (1 : Int32)) hx hb dX10_power_8 (by decide) ?_
    refine lv_goto (tgt := 13) hx hb dX10_power_9 (by decide) ?_
    exact bX10_power_13 C hn _ _ _ _ _ _ _ hf _ _ _ _ _ (by omega) (by omega) hw (lv_sub hl [0, 1, 2] rfl)
theorem kXX10_power : MK yX10_power cX10_power 3 none 2 := ⟨w1240, w8, by decide +kernel⟩
theorem mX10_power {D : va_G} {cy : Nat → ClassId} {s0 : Nat} {l : Launch} {x0 : Nat} {x1 : Int32} {x2 : Int32} {h : Hp} {v : Unit} {h1 : Hp} (hf : fX10_power x0 x1 x2 h = some (v, h1)) : MT D cy s0 l yX10_power cX10_power 3 none rX10_power [.ref x0, .int x1, .int x2] h none h1 := by
  refine MT.of (by decide +kernel) (Nat.le_of_ble_eq_true rfl) ?_
  intro p e s m below meth c H locs ls C hn hw hl
  exact bX10_power C hn _ _ _ _ _ hf _ _ _ _ _ (Nat.le_of_ble_eq_true rfl) (Nat.le_of_ble_eq_true rfl) hw hl
abbrev rX10_propose : Room := { frames := 4, cells := 0, slots := 0, locals := 95 }
abbrev pX10_propose_81 (D : va_G) (cy : Nat → ClassId) (s0 : Nat) (p : Program) (l : Launch) (e : Env) (s : State) (m : MethodId) (args : Array Value) (below : List Frame) (meth : Method) (c : Code) (r : Int32 × Hp) (x0 : Nat) (x1 : Int32) (x2 : Int32) (x3 : Int32) (x4 : Int32) (y0 : Int32) (y1 : Nat) (h : Hp) : Prop := ∀ (H : Heap) (locs : List Loc) (ls : Array Slot) (cells slots : Nat), cells + (0) ≤ 0 → slots + (0) ≤ 0 → WS D cy s0 s h H locs → lv_has ls 5 [(0, .ref x0), (1, .int x1), (2, .int x2), (3, .int x3), (4, .int x4)] → W p l e rX10_propose s m args below meth c H locs cells slots (MQ below (QQ D cy s0 (some (.int r.1)) r.2) args s 0 0 (fun q => s0 ≤ q)) (F0 m 81 ls [.int y0, .ref y1])
abbrev pX10_propose_76 (D : va_G) (cy : Nat → ClassId) (s0 : Nat) (p : Program) (l : Launch) (e : Env) (s : State) (m : MethodId) (args : Array Value) (below : List Frame) (meth : Method) (c : Code) (r : Int32 × Hp) (x0 : Nat) (x1 : Int32) (x2 : Int32) (x3 : Int32) (x4 : Int32) (y0 : Nat) (h : Hp) : Prop := ∀ (H : Heap) (locs : List Loc) (ls : Array Slot) (cells slots : Nat), cells + (0) ≤ 0 → slots + (0) ≤ 0 → WS D cy s0 s h H locs → lv_has ls 5 [(0, .ref x0), (1, .int x1), (2, .int x2), (3, .int x3), (4, .int x4)] → W p l e rX10_propose s m args below meth c H locs cells slots (MQ below (QQ D cy s0 (some (.int r.1)) r.2) args s 0 0 (fun q => s0 ≤ q)) (F0 m 76 ls [.ref y0])
abbrev pX10_propose_37 (D : va_G) (cy : Nat → ClassId) (s0 : Nat) (p : Program) (l : Launch) (e : Env) (s : State) (m : MethodId) (args : Array Value) (below : List Frame) (meth : Method) (c : Code) (r : Int32 × Hp) (x0 : Nat) (x1 : Int32) (x2 : Int32) (x3 : Int32) (x4 : Int32) (y0 : Int32) (y1 : Nat) (h : Hp) : Prop := ∀ (H : Heap) (locs : List Loc) (ls : Array Slot) (cells slots : Nat), cells + (0) ≤ 0 → slots + (0) ≤ 0 → WS D cy s0 s h H locs → lv_has ls 5 [(0, .ref x0), (1, .int x1), (2, .int x2), (3, .int x3), (4, .int x4)] → W p l e rX10_propose s m args below meth c H locs cells slots (MQ below (QQ D cy s0 (some (.int r.1)) r.2) args s 0 0 (fun q => s0 ≤ q)) (F0 m 37 ls [.int y0, .ref y1])
abbrev pX10_propose_13 (D : va_G) (cy : Nat → ClassId) (s0 : Nat) (p : Program) (l : Launch) (e : Env) (s : State) (m : MethodId) (args : Array Value) (below : List Frame) (meth : Method) (c : Code) (r : Int32 × Hp) (x0 : Nat) (x1 : Int32) (x2 : Int32) (x3 : Int32) (x4 : Int32) (y0 : Int32) (y1 : Nat) (h : Hp) : Prop := ∀ (H : Heap) (locs : List Loc) (ls : Array Slot) (cells slots : Nat), cells + (0) ≤ 0 → slots + (0) ≤ 0 → WS D cy s0 s h H locs → lv_has ls 5 [(0, .ref x0), (1, .int x1), (2, .int x2), (3, .int x3), (4, .int x4)] → W p l e rX10_propose s m args below meth c H locs cells slots (MQ below (QQ D cy s0 (some (.int r.1)) r.2) args s 0 0 (fun q => s0 ≤ q)) (F0 m 13 ls [.int y0, .ref y1])
abbrev pX10_propose (D : va_G) (cy : Nat → ClassId) (s0 : Nat) (p : Program) (l : Launch) (e : Env) (s : State) (m : MethodId) (args : Array Value) (below : List Frame) (meth : Method) (c : Code) (r : Int32 × Hp) (x0 : Nat) (x1 : Int32) (x2 : Int32) (x3 : Int32) (x4 : Int32) (h : Hp) : Prop := ∀ (H : Heap) (locs : List Loc) (ls : Array Slot) (cells slots : Nat), cells + (0) ≤ 0 → slots + (0) ≤ 0 → WS D cy s0 s h H locs → lv_has ls 5 [(0, .ref x0), (1, .int x1), (2, .int x2), (3, .int x3), (4, .int x4)] → W p l e rX10_propose s m args below meth c H locs cells slots (MQ below (QQ D cy s0 (some (.int r.1)) r.2) args s 0 0 (fun q => s0 ≤ q)) (F0 m 0 ls [])
set_option maxRecDepth 100000 in
set_option maxHeartbeats 4000000 in
theorem bX10_propose_81 {D : va_G} {cy : Nat → ClassId} {s0 : Nat} {p : Program} {l : Launch} {e : Env} {s : State} {m : MethodId} {args : Array Value} {below : List Frame} {meth : Method} {c : Code} (C : CX D cy s0 p s m args meth c cX10_propose 5 RX10 (some .int)) (hn : meth.name = "propose") : ∀ (x0 : Nat) (x1 : Int32) (x2 : Int32) (x3 : Int32) (x4 : Int32) (y0 : Int32) (y1 : Nat) (h : Hp) (r : Int32 × Hp), fX10_propose_81 x0 x1 x2 x3 x4 y0 y1 h = some r → pX10_propose_81 D cy s0 p l e s m args below meth c r x0 x1 x2 x3 x4 y0 y1 h := by
  intro x0 x1 x2 x3 x4 y0 y1 h ⟨rv, rh⟩ hf H locs ls cells slots hc hs hw hl
  unfold fX10_propose_81 at hf
  have hx := C.1
  have hb := C.2.1
  refine lv_iconst (v := (3 : Int32)) hx hb dX10_propose_81 (by decide) ?_
  obtain ⟨kb1, hf⟩ := ig hf
  obtain ⟨z1, h1, e1, hf⟩ := ob2 hf
  refine r_callV C hw (mX10_bad e1) kXX10_bad ck10 rfl kb1 w1132 w1134 v35 ⟨Nat.le_of_ble_eq_true rfl, Nat.le_of_ble_eq_true rfl⟩ rfl hl.1 (rest := []) rfl (Nat.le_of_ble_eq_true rfl) dX10_propose_82 (mc := 0) (ms := 0) rfl rfl ⟨by show _ + 0 ≤ 0; omega, by show _ + 0 ≤ 0; omega⟩ (fun H locs hw => ?_)
  refine W.eq (g2 := F0 m 85 ls [.int z1]) rfl ?_
  refine lv_if_eq (tgt := 90) hx hb dX10_propose_85 (by decide) (fun c2 => ?_) (fun c2 => ?_)
  · have hf := ip hf c2
    refine lv_aload_n hx hb dX10_propose_90 rfl (lv_at hl 0 rfl) ?_
    refine lv_iload_n hx hb dX10_propose_91 rfl (lv_at hl 1 rfl) ?_
    refine lv_iload_n hx hb dX10_propose_92 rfl (lv_at hl 2 rfl) ?_
    refine lv_iload_n hx hb dX10_propose_93 rfl (lv_at hl 3 rfl) ?_
    refine lv_iload hx hb dX10_propose_94 (lv_at hl 4 rfl) ?_
    refine lv_aload_n hx hb dX10_propose_96 rfl (lv_at hl 0 rfl) ?_
    obtain ⟨z3, e3, hf⟩ := ob hf
    refine r_gI C hw e3 ck10 rfl (by decide) w991 dX10_propose_97 ?_
    refine lv_aload_n hx hb dX10_propose_100 rfl (lv_at hl 0 rfl) ?_
    obtain ⟨z4, e4, hf⟩ := ob hf
    refine r_gI C hw e4 ck10 rfl (by decide) w992 dX10_propose_101 ?_
    refine lv_aload_n hx hb dX10_propose_104 rfl (lv_at hl 0 rfl) ?_
    obtain ⟨z5, e5, hf⟩ := ob hf
    refine r_gI C hw e5 ck10 rfl (by decide) w993 dX10_propose_105 ?_
    refine lv_aload_n hx hb dX10_propose_108 rfl (lv_at hl 0 rfl) ?_
    obtain ⟨z6, e6, hf⟩ := ob hf
    refine r_gI C hw e6 ck10 rfl (by decide) w994 dX10_propose_109 ?_
    obtain ⟨kb7, hf⟩ := ig hf
    obtain ⟨z7, h7, e7, hf⟩ := ob2 hf
    refine r_callV C hw (mX10_adds e7) kXX10_adds ck10 rfl kb7 w1176 w1178 v45 ⟨Nat.le_of_ble_eq_true rfl, Nat.le_of_ble_eq_true rfl⟩ rfl hl.1 (rest := []) rfl (Nat.le_of_ble_eq_true rfl) dX10_propose_112 (mc := 0) (ms := 0) rfl rfl ⟨by show _ + 0 ≤ 0; omega, by show _ + 0 ≤ 0; omega⟩ (fun H locs hw => ?_)
    refine W.eq (g2 := F0 m 115 ls [.int z7]) rfl ?_
    refine lv_if_eq (tgt := 127) hx hb dX10_propose_115 (by decide) (fun c8 => ?_) (fun c8 => ?_)
    · have hf := ip hf c8
      refine lv_iconst (v := (0 : Int32)) hx hb dX10_propose_127 (by decide) ?_
      obtain ⟨rfl, rfl⟩ := sp hf
      exact r_iret C hw rfl rfl (by omega) (by omega) dX10_propose_128
    · have hf := ie hf c8
      refine lv_aload_n hx hb dX10_propose_118 rfl (lv_at hl 0 rfl) ?_
      obtain ⟨z9, e9, hf⟩ := ob hf
      refine r_gR C hw e9 ck10 rfl (by decide) w968 dX10_propose_119 ?_
      cases z9 with
      | none =>
        have hf := on_n hf
        cases hf
      | some a10 =>
        have hf := on_s hf
        refine W.eq (g2 := F0 m 122 ls [.ref a10]) rfl ?_
        refine lv_iload_n hx hb dX10_propose_122 rfl (lv_at hl 1 rfl) ?_
        obtain ⟨z11, e11, hf⟩ := ob hf
        refine r_iald C hw e11 dX10_propose_123 ?_
        refine lv_goto (tgt := 128) hx hb dX10_propose_124 (by decide) ?_
        obtain ⟨rfl, rfl⟩ := sp hf
        exact r_iret C hw rfl rfl (by omega) (by omega) dX10_propose_128
  · have hf := ie hf c2
    refine lv_iconst (v := (0 : Int32)) hx hb dX10_propose_88 (by decide) ?_
    obtain ⟨rfl, rfl⟩ := sp hf
    exact r_iret C hw rfl rfl (by omega) (by omega) dX10_propose_89
set_option maxRecDepth 100000 in
set_option maxHeartbeats 4000000 in
theorem bX10_propose_76 {D : va_G} {cy : Nat → ClassId} {s0 : Nat} {p : Program} {l : Launch} {e : Env} {s : State} {m : MethodId} {args : Array Value} {below : List Frame} {meth : Method} {c : Code} (C : CX D cy s0 p s m args meth c cX10_propose 5 RX10 (some .int)) (hn : meth.name = "propose") : ∀ (x0 : Nat) (x1 : Int32) (x2 : Int32) (x3 : Int32) (x4 : Int32) (y0 : Nat) (h : Hp) (r : Int32 × Hp), fX10_propose_76 x0 x1 x2 x3 x4 y0 h = some r → pX10_propose_76 D cy s0 p l e s m args below meth c r x0 x1 x2 x3 x4 y0 h := by
  intro x0 x1 x2 x3 x4 y0 h ⟨rv, rh⟩ hf H locs ls cells slots hc hs hw hl
  unfold fX10_propose_76 at hf
  have hx := C.1
  have hb := C.2.1
  refine lv_iconst (v := (1 : Int32)) hx hb dX10_propose_76 (by decide) ?_
  refine lv_goto (tgt := 81) hx hb dX10_propose_77 (by decide) ?_
  exact bX10_propose_81 C hn _ _ _ _ _ _ _ _ _ hf _ _ _ _ _ (by omega) (by omega) hw (lv_sub hl [0, 1, 2, 3, 4] rfl)
set_option maxRecDepth 100000 in
set_option maxHeartbeats 4000000 in
theorem bX10_propose_37 {D : va_G} {cy : Nat → ClassId} {s0 : Nat} {p : Program} {l : Launch} {e : Env} {s : State} {m : MethodId} {args : Array Value} {below : List Frame} {meth : Method} {c : Code} (C : CX D cy s0 p s m args meth c cX10_propose 5 RX10 (some .int)) (hn : meth.name = "propose") : ∀ (x0 : Nat) (x1 : Int32) (x2 : Int32) (x3 : Int32) (x4 : Int32) (y0 : Int32) (y1 : Nat) (h : Hp) (r : Int32 × Hp), fX10_propose_37 x0 x1 x2 x3 x4 y0 y1 h = some r → pX10_propose_37 D cy s0 p l e s m args below meth c r x0 x1 x2 x3 x4 y0 y1 h := by
  intro x0 x1 x2 x3 x4 y0 y1 h ⟨rv, rh⟩ hf H locs ls cells slots hc hs hw hl
  unfold fX10_propose_37 at hf
  have hx := C.1
  have hb := C.2.1
  refine lv_iconst (v := (2 : Int32)) hx hb dX10_propose_37 (by decide) ?_
  obtain ⟨kb1, hf⟩ := ig hf
  obtain ⟨z1, h1, e1, hf⟩ := ob2 hf
  refine r_callV C hw (mX10_bad e1) kXX10_bad ck10 rfl kb1 w1132 w1134 v35 ⟨Nat.le_of_ble_eq_true rfl, Nat.le_of_ble_eq_true rfl⟩ rfl hl.1 (rest := []) rfl (Nat.le_of_ble_eq_true rfl) dX10_propose_38 (mc := 0) (ms := 0) rfl rfl ⟨by show _ + 0 ≤ 0; omega, by show _ + 0 ≤ 0; omega⟩ (fun H locs hw => ?_)
  refine W.eq (g2 := F0 m 41 ls [.int z1]) rfl ?_
  refine lv_if_ne (tgt := 88) hx hb dX10_propose_41 (by decide) (fun c2 => ?_) (fun c2 => ?_)
  · have hf := ie hf c2
    refine lv_iconst (v := (0 : Int32)) hx hb dX10_propose_88 (by decide) ?_
    obtain ⟨rfl, rfl⟩ := sp hf
    exact r_iret C hw rfl rfl (by omega) (by omega) dX10_propose_89
  · have hf := ip hf c2
    refine lv_aload_n hx hb dX10_propose_44 rfl (lv_at hl 0 rfl) ?_
    refine lv_aload_n hx hb dX10_propose_45 rfl (lv_at hl 0 rfl) ?_
    obtain ⟨z3, e3, hf⟩ := ob hf
    refine r_gR C hw e3 ck10 rfl (by decide) w964 dX10_propose_46 ?_
    cases z3 with
    | none =>
      have hf := on_n hf
      cases hf
    | some a4 =>
      have hf := on_s hf
      refine W.eq (g2 := F0 m 49 ls [.ref a4, .ref x0]) rfl ?_
      refine lv_iload_n hx hb dX10_propose_49 rfl (lv_at hl 1 rfl) ?_
      obtain ⟨z5, e5, hf⟩ := ob hf
      refine r_zald C hw e5 dX10_propose_50 ?_
      refine lv_if_eq (tgt := 76) hx hb dX10_propose_51 (by decide) (fun c6 => ?_) (fun c6 => ?_)
      · have hf := ip hf c6
        exact bX10_propose_76 C hn _ _ _ _ _ _ _ _ hf _ _ _ _ _ (by omega) (by omega) hw (lv_sub hl [0, 1, 2, 3, 4] rfl)
      · have hf := ie hf c6
        refine lv_aload_n hx hb dX10_propose_54 rfl (lv_at hl 0 rfl) ?_
        obtain ⟨z7, e7, hf⟩ := ob hf
        refine r_gR C hw e7 ck10 rfl (by decide) w971 dX10_propose_55 ?_
        cases z7 with
        | none =>
          have hf := on_n hf
          cases hf
        | some a8 =>
          have hf := on_s hf
          refine W.eq (g2 := F0 m 58 ls [.ref a8, .ref x0]) rfl ?_
          refine lv_iload_n hx hb dX10_propose_58 rfl (lv_at hl 1 rfl) ?_
          obtain ⟨z9, e9, hf⟩ := ob hf
          refine r_iald C hw e9 dX10_propose_59 ?_
          refine lv_iconst (v := (2 : Int32)) hx hb dX10_propose_60 (by decide) ?_
          refine lv_icmp_ne (tgt := 76) hx hb dX10_propose_61 (by decide) (fun c10 => ?_) (fun c10 => ?_)
          · have hf := ie hf c10
            exact bX10_propose_76 C hn _ _ _ _ _ _ _ _ hf _ _ _ _ _ (by omega) (by omega) hw (lv_sub hl [0, 1, 2, 3, 4] rfl)
          · have hf := ip hf c10
            refine lv_aload_n hx hb dX10_propose_64 rfl (lv_at hl 0 rfl) ?_
            obtain ⟨z11, e11, hf⟩ := ob hf
            refine r_gR C hw e11 ck10 rfl (by decide) w968 dX10_propose_65 ?_
            cases z11 with
            | none =>
              have hf := on_n hf
              cases hf
            | some a12 =>
              have hf := on_s hf
              refine W.eq (g2 := F0 m 68 ls [.ref a12, .ref x0]) rfl ?_
              refine lv_iload_n hx hb dX10_propose_68 rfl (lv_at hl 1 rfl) ?_
              obtain ⟨z13, e13, hf⟩ := ob hf
              refine r_iald C hw e13 dX10_propose_69 ?_
              refine lv_sipush (v := (1200 : Int32)) hx hb dX10_propose_70 (by decide) ?_
              refine lv_icmp_ne (tgt := 80) hx hb dX10_propose_73 (by decide) (fun c14 => ?_) (fun c14 => ?_)
              · have hf := ie hf c14
                refine lv_iconst (v := (0 : Int32)) hx hb dX10_propose_80 (by decide) ?_
                exact bX10_propose_81 C hn _ _ _ _ _ _ _ _ _ hf _ _ _ _ _ (by omega) (by omega) hw (lv_sub hl [0, 1, 2, 3, 4] rfl)
              · have hf := ip hf c14
                exact bX10_propose_76 C hn _ _ _ _ _ _ _ _ hf _ _ _ _ _ (by omega) (by omega) hw (lv_sub hl [0, 1, 2, 3, 4] rfl)
set_option maxRecDepth 100000 in
set_option maxHeartbeats 4000000 in
theorem bX10_propose_13 {D : va_G} {cy : Nat → ClassId} {s0 : Nat} {p : Program} {l : Launch} {e : Env} {s : State} {m : MethodId} {args : Array Value} {below : List Frame} {meth : Method} {c : Code} (C : CX D cy s0 p s m args meth c cX10_propose 5 RX10 (some .int)) (hn : meth.name = "propose") : ∀ (x0 : Nat) (x1 : Int32) (x2 : Int32) (x3 : Int32) (x4 : Int32) (y0 : Int32) (y1 : Nat) (h : Hp) (r : Int32 × Hp), fX10_propose_13 x0 x1 x2 x3 x4 y0 y1 h = some r → pX10_propose_13 D cy s0 p l e s m args below meth c r x0 x1 x2 x3 x4 y0 y1 h := by
  intro x0 x1 x2 x3 x4 y0 y1 h ⟨rv, rh⟩ hf H locs ls cells slots hc hs hw hl
  unfold fX10_propose_13 at hf
  have hx := C.1
  have hb := C.2.1
  refine lv_iconst (v := (1 : Int32)) hx hb dX10_propose_13 (by decide) ?_
  obtain ⟨kb1, hf⟩ := ig hf
  obtain ⟨z1, h1, e1, hf⟩ := ob2 hf
  refine r_callV C hw (mX10_bad e1) kXX10_bad ck10 rfl kb1 w1132 w1134 v35 ⟨Nat.le_of_ble_eq_true rfl, Nat.le_of_ble_eq_true rfl⟩ rfl hl.1 (rest := []) rfl (Nat.le_of_ble_eq_true rfl) dX10_propose_14 (mc := 0) (ms := 0) rfl rfl ⟨by show _ + 0 ≤ 0; omega, by show _ + 0 ≤ 0; omega⟩ (fun H locs hw => ?_)
  refine W.eq (g2 := F0 m 17 ls [.int z1]) rfl ?_
  refine lv_if_ne (tgt := 88) hx hb dX10_propose_17 (by decide) (fun c2 => ?_) (fun c2 => ?_)
  · have hf := ie hf c2
    refine lv_iconst (v := (0 : Int32)) hx hb dX10_propose_88 (by decide) ?_
    obtain ⟨rfl, rfl⟩ := sp hf
    exact r_iret C hw rfl rfl (by omega) (by omega) dX10_propose_89
  · have hf := ip hf c2
    refine lv_aload_n hx hb dX10_propose_20 rfl (lv_at hl 0 rfl) ?_
    refine lv_aload_n hx hb dX10_propose_21 rfl (lv_at hl 0 rfl) ?_
    refine lv_iload_n hx hb dX10_propose_22 rfl (lv_at hl 2 rfl) ?_
    refine lv_iload_n hx hb dX10_propose_23 rfl (lv_at hl 3 rfl) ?_
    refine lv_iload hx hb dX10_propose_24 (lv_at hl 4 rfl) ?_
    obtain ⟨kb3, hf⟩ := ig hf
    obtain ⟨z3, h3, e3, hf⟩ := ob2 hf
    refine r_callV C hw (mX10_isRight e3) kXX10_isRight ck10 rfl kb3 w1214 w1216 v52 ⟨Nat.le_of_ble_eq_true rfl, Nat.le_of_ble_eq_true rfl⟩ rfl hl.1 (rest := [.ref x0]) rfl (Nat.le_of_ble_eq_true rfl) dX10_propose_26 (mc := 0) (ms := 0) rfl rfl ⟨by show _ + 0 ≤ 0; omega, by show _ + 0 ≤ 0; omega⟩ (fun H locs hw => ?_)
    refine W.eq (g2 := F0 m 29 ls [.int z3, .ref x0]) rfl ?_
    refine lv_if_ne (tgt := 36) hx hb dX10_propose_29 (by decide) (fun c4 => ?_) (fun c4 => ?_)
    · have hf := ie hf c4
      refine lv_iconst (v := (0 : Int32)) hx hb dX10_propose_36 (by decide) ?_
      exact bX10_propose_37 C hn _ _ _ _ _ _ _ _ _ hf _ _ _ _ _ (by omega) (by omega) hw (lv_sub hl [0, 1, 2, 3, 4] rfl)
    · have hf := ip hf c4
      refine lv_iconst (v := (1 : Int32)) hx hb dX10_propose_32 (by decide) ?_
      refine lv_goto (tgt := 37) hx hb dX10_propose_33 (by decide) ?_
      exact bX10_propose_37 C hn _ _ _ _ _ _ _ _ _ hf _ _ _ _ _ (by omega) (by omega) hw (lv_sub hl [0, 1, 2, 3, 4] rfl)
set_option maxRecDepth 100000 in
set_option maxHeartbeats 4000000 in
theorem bX10_propose {D : va_G} {cy : Nat → ClassId} {s0 : Nat} {p : Program} {l : Launch} {e : Env} {s : State} {m : MethodId} {args : Array Value} {below : List Frame} {meth : Method} {c : Code} (C : CX D cy s0 p s m args meth c cX10_propose 5 RX10 (some .int)) (hn : meth.name = "propose") : ∀ (x0 : Nat) (x1 : Int32) (x2 : Int32) (x3 : Int32) (x4 : Int32) (h : Hp) (r : Int32 × Hp), fX10_propose x0 x1 x2 x3 x4 h = some r → pX10_propose D cy s0 p l e s m args below meth c r x0 x1 x2 x3 x4 h := by
  intro x0 x1 x2 x3 x4 h ⟨rv, rh⟩ hf H locs ls cells slots hc hs hw hl
  unfold fX10_propose at hf
  have hx := C.1
  have hb := C.2.1
  refine lv_aload_n hx hb dX10_propose_0 rfl (lv_at hl 0 rfl) ?_
  refine lv_iload_n hx hb dX10_propose_1 rfl (lv_at hl 1 rfl) ?_
  obtain ⟨z1, h1, e1, hf⟩ := ob2 hf
  refine r_callS C hw (mX10_isNode e1) kXX10_isNode w1129 w1130 ⟨Nat.le_of_ble_eq_true rfl, Nat.le_of_ble_eq_true rfl⟩ rfl hl.1 (rest := [.ref x0]) rfl (Nat.le_of_ble_eq_true rfl) dX10_propose_2 (mc := 0) (ms := 0) rfl rfl ⟨by show _ + 0 ≤ 0; omega, by show _ + 0 ≤ 0; omega⟩ (fun H locs hw => ?_)
  refine W.eq (g2 := F0 m 5 ls [.int z1, .ref x0]) rfl ?_
  refine lv_if_ne (tgt := 12) hx hb dX10_propose_5 (by decide) (fun c2 => ?_) (fun c2 => ?_)
  · have hf := ie hf c2
    refine lv_iconst (v := (0 : Int32)) hx hb dX10_propose_12 (by decide) ?_
    exact bX10_propose_13 C hn _ _ _ _ _ _ _ _ _ hf _ _ _ _ _ (by omega) (by omega) hw (lv_sub hl [0, 1, 2, 3, 4] rfl)
  · have hf := ip hf c2
    refine lv_iconst (v := (1 : Int32)) hx hb dX10_propose_8 (by decide) ?_
    refine lv_goto (tgt := 13) hx hb dX10_propose_9 (by decide) ?_
    exact bX10_propose_13 C hn _ _ _ _ _ _ _ _ _ hf _ _ _ _ _ (by omega) (by omega) hw (lv_sub hl [0, 1, 2, 3, 4] rfl)
theorem kXX10_propose : MK yX10_propose cX10_propose 5 (some .int) 4 := ⟨w1213, w8, by decide +kernel⟩
theorem mX10_propose {D : va_G} {cy : Nat → ClassId} {s0 : Nat} {l : Launch} {x0 : Nat} {x1 : Int32} {x2 : Int32} {x3 : Int32} {x4 : Int32} {h : Hp} {v : Int32} {h1 : Hp} (hf : fX10_propose x0 x1 x2 x3 x4 h = some (v, h1)) : MT D cy s0 l yX10_propose cX10_propose 5 (some .int) rX10_propose [.ref x0, .int x1, .int x2, .int x3, .int x4] h (some (.int v)) h1 := by
  refine MT.of (by decide +kernel) (Nat.le_of_ble_eq_true rfl) ?_
  intro p e s m below meth c H locs ls C hn hw hl
  exact bX10_propose C hn _ _ _ _ _ _ _ hf _ _ _ _ _ (Nat.le_of_ble_eq_true rfl) (Nat.le_of_ble_eq_true rfl) hw hl
abbrev rX10_result : Room := { frames := 5, cells := 0, slots := 0, locals := 122 }
abbrev pX10_result_55 (D : va_G) (cy : Nat → ClassId) (s0 : Nat) (p : Program) (l : Launch) (e : Env) (s : State) (m : MethodId) (args : Array Value) (below : List Frame) (meth : Method) (c : Code) (r : Int32 × Hp) (x0 : Nat) (x1 : Int32) (x2 : Int32) (y0 : Int32) (y1 : Nat) (h : Hp) : Prop := ∀ (H : Heap) (locs : List Loc) (ls : Array Slot) (cells slots : Nat), cells + (0) ≤ 0 → slots + (0) ≤ 0 → WS D cy s0 s h H locs → lv_has ls 3 [(0, .ref x0), (1, .int x1), (2, .int x2)] → W p l e rX10_result s m args below meth c H locs cells slots (MQ below (QQ D cy s0 (some (.int r.1)) r.2) args s 0 0 (fun q => s0 ≤ q)) (F0 m 55 ls [.int y0, .ref y1])
abbrev pX10_result_50 (D : va_G) (cy : Nat → ClassId) (s0 : Nat) (p : Program) (l : Launch) (e : Env) (s : State) (m : MethodId) (args : Array Value) (below : List Frame) (meth : Method) (c : Code) (r : Int32 × Hp) (x0 : Nat) (x1 : Int32) (x2 : Int32) (y0 : Nat) (h : Hp) : Prop := ∀ (H : Heap) (locs : List Loc) (ls : Array Slot) (cells slots : Nat), cells + (0) ≤ 0 → slots + (0) ≤ 0 → WS D cy s0 s h H locs → lv_has ls 3 [(0, .ref x0), (1, .int x1), (2, .int x2)] → W p l e rX10_result s m args below meth c H locs cells slots (MQ below (QQ D cy s0 (some (.int r.1)) r.2) args s 0 0 (fun q => s0 ≤ q)) (F0 m 50 ls [.ref y0])
abbrev pX10_result_13 (D : va_G) (cy : Nat → ClassId) (s0 : Nat) (p : Program) (l : Launch) (e : Env) (s : State) (m : MethodId) (args : Array Value) (below : List Frame) (meth : Method) (c : Code) (r : Int32 × Hp) (x0 : Nat) (x1 : Int32) (x2 : Int32) (y0 : Int32) (y1 : Nat) (h : Hp) : Prop := ∀ (H : Heap) (locs : List Loc) (ls : Array Slot) (cells slots : Nat), cells + (0) ≤ 0 → slots + (0) ≤ 0 → WS D cy s0 s h H locs → lv_has ls 3 [(0, .ref x0), (1, .int x1), (2, .int x2)] → W p l e rX10_result s m args below meth c H locs cells slots (MQ below (QQ D cy s0 (some (.int r.1)) r.2) args s 0 0 (fun q => s0 ≤ q)) (F0 m 13 ls [.int y0, .ref y1])
abbrev pX10_result (D : va_G) (cy : Nat → ClassId) (s0 : Nat) (p : Program) (l : Launch) (e : Env) (s : State) (m : MethodId) (args : Array Value) (below : List Frame) (meth : Method) (c : Code) (r : Int32 × Hp) (x0 : Nat) (x1 : Int32) (x2 : Int32) (h : Hp) : Prop := ∀ (H : Heap) (locs : List Loc) (ls : Array Slot) (cells slots : Nat), cells + (0) ≤ 0 → slots + (0) ≤ 0 → WS D cy s0 s h H locs → lv_has ls 3 [(0, .ref x0), (1, .int x1), (2, .int x2)] → W p l e rX10_result s m args below meth c H locs cells slots (MQ below (QQ D cy s0 (some (.int r.1)) r.2) args s 0 0 (fun q => s0 ≤ q)) (F0 m 0 ls [])
set_option maxRecDepth 100000 in
set_option maxHeartbeats 4000000 in
theorem bX10_result_55 {D : va_G} {cy : Nat → ClassId} {s0 : Nat} {p : Program} {l : Launch} {e : Env} {s : State} {m : MethodId} {args : Array Value} {below : List Frame} {meth : Method} {c : Code} (C : CX D cy s0 p s m args meth c cX10_result 3 RX10 (some .int)) (hn : meth.name = "result") : ∀ (x0 : Nat) (x1 : Int32) (x2 : Int32) (y0 : Int32) (y1 : Nat) (h : Hp) (r : Int32 × Hp), fX10_result_55 x0 x1 x2 y0 y1 h = some r → pX10_result_55 D cy s0 p l e s m args below meth c r x0 x1 x2 y0 y1 h := by
  intro x0 x1 x2 y0 y1 h ⟨rv, rh⟩ hf H locs ls cells slots hc hs hw hl
  unfold fX10_result_55 at hf
  have hx := C.1
  have hb := C.2.1
  refine lv_iconst (v := (2 : Int32)) hx hb dX10_result_55 (by decide) ?_
  obtain ⟨kb1, hf⟩ := ig hf
  obtain ⟨z1, h1, e1, hf⟩ := ob2 hf
  refine r_callV C hw (mX10_bad e1) kXX10_bad ck10 rfl kb1 w1132 w1134 v35 ⟨Nat.le_of_ble_eq_true rfl, Nat.le_of_ble_eq_true rfl⟩ rfl hl.1 (rest := []) rfl (Nat.le_of_ble_eq_true rfl) dX10_result_56 (mc := 0) (ms := 0) rfl rfl ⟨by show _ + 0 ≤ 0; omega, by show _ + 0 ≤ 0; omega⟩ (fun H locs hw => ?_)
  refine W.eq (g2 := F0 m 59 ls [.int z1]) rfl ?_
  refine lv_if_eq (tgt := 64) hx hb dX10_result_59 (by decide) (fun c2 => ?_) (fun c2 => ?_)
  · have hf := ip hf c2
    refine lv_aload_n hx hb dX10_result_64 rfl (lv_at hl 0 rfl) ?_
    refine lv_iload_n hx hb dX10_result_65 rfl (lv_at hl 1 rfl) ?_
    obtain ⟨kb3, hf⟩ := ig hf
    obtain ⟨z3, h3, e3, hf⟩ := ob2 hf
    refine r_callV C hw (mX10_work e3) kXX10_work ck10 rfl kb3 w1245 w1247 v53 ⟨Nat.le_of_ble_eq_true rfl, Nat.le_of_ble_eq_true rfl⟩ rfl hl.1 (rest := []) rfl (Nat.le_of_ble_eq_true rfl) dX10_result_66 (mc := 0) (ms := 0) rfl rfl ⟨by show _ + 0 ≤ 0; omega, by show _ + 0 ≤ 0; omega⟩ (fun H locs hw => ?_)
    refine W.eq (g2 := F0 m 69 ls []) rfl ?_
    refine lv_aload_n hx hb dX10_result_69 rfl (lv_at hl 0 rfl) ?_
    obtain ⟨z4, e4, hf⟩ := ob hf
    refine r_gR C hw e4 ck10 rfl (by decide) w1011 dX10_result_70 ?_
    cases z4 with
    | none =>
      have hf := on_n hf
      cases hf
    | some a5 =>
      have hf := on_s hf
      refine W.eq (g2 := F0 m 73 ls [.ref a5]) rfl ?_
      refine lv_iload_n hx hb dX10_result_73 rfl (lv_at hl 2 rfl) ?_
      obtain ⟨z6, e6, hf⟩ := ob hf
      refine r_iald C hw e6 dX10_result_74 ?_
      obtain ⟨rfl, rfl⟩ := sp hf
      exact r_iret C hw rfl rfl (by omega) (by omega) dX10_result_75
  · have hf := ie hf c2
    refine lv_iconst (v := (0 : Int32)) hx hb dX10_result_62 (by decide) ?_
    obtain ⟨rfl, rfl⟩ := sp hf
    exact r_iret C hw rfl rfl (by omega) (by omega) dX10_result_63
set_option maxRecDepth 100000 in
set_option maxHeartbeats 4000000 in
theorem bX10_result_50 {D : va_G} {cy : Nat → ClassId} {s0 : Nat} {p : Program} {l : Launch} {e : Env} {s : State} {m : MethodId} {args : Array Value} {below : List Frame} {meth : Method} {c : Code} (C : CX D cy s0 p s m args meth c cX10_result 3 RX10 (some .int)) (hn : meth.name = "result") : ∀ (x0 : Nat) (x1 : Int32) (x2 : Int32) (y0 : Nat) (h : Hp) (r : Int32 × Hp), fX10_result_50 x0 x1 x2 y0 h = some r → pX10_result_50 D cy s0 p l e s m args below meth c r x0 x1 x2 y0 h := by
  intro x0 x1 x2 y0 h ⟨rv, rh⟩ hf H locs ls cells slots hc hs hw hl
  unfold fX10_result_50 at hf
  have hx := C.1
  have hb := C.2.1
  refine lv_iconst (v := (1 : Int32)) hx hb dX10_result_50 (by decide) ?_
  refine lv_goto (tgt := 55) hx hb dX10_result_51 (by decide) ?_
  exact bX10_result_55 C hn _ _ _ _ _ _ _ hf _ _ _ _ _ (by omega) (by omega) hw (lv_sub hl [0, 1, 2] rfl)
set_option maxRecDepth 100000 in
set_option maxHeartbeats 4000000 in
theorem bX10_result_13 {D : va_G} {cy : Nat → ClassId} {s0 : Nat} {p : Program} {l : Launch} {e : Env} {s : State} {m : MethodId} {args : Array Value} {below : List Frame} {meth : Method} {c : Code} (C : CX D cy s0 p s m args meth c cX10_result 3 RX10 (some .int)) (hn : meth.name = "result") : ∀ (x0 : Nat) (x1 : Int32) (x2 : Int32) (y0 : Int32) (y1 : Nat) (h : Hp) (r : Int32 × Hp), fX10_result_13 x0 x1 x2 y0 y1 h = some r → pX10_result_13 D cy s0 p l e s m args below meth c r x0 x1 x2 y0 y1 h := by
  intro x0 x1 x2 y0 y1 h ⟨rv, rh⟩ hf H locs ls cells slots hc hs hw hl
  unfold fX10_result_13 at hf
  have hx := C.1
  have hb := C.2.1
  refine lv_iconst (v := (1 : Int32)) hx hb dX10_result_13 (by decide) ?_
  obtain ⟨kb1, hf⟩ := ig hf
  obtain ⟨z1, h1, e1, hf⟩ := ob2 hf
  refine r_callV C hw (mX10_bad e1) kXX10_bad ck10 rfl kb1 w1132 w1134 v35 ⟨Nat.le_of_ble_eq_true rfl, Nat.le_of_ble_eq_true rfl⟩ rfl hl.1 (rest := []) rfl (Nat.le_of_ble_eq_true rfl) dX10_result_14 (mc := 0) (ms := 0) rfl rfl ⟨by show _ + 0 ≤ 0; omega, by show _ + 0 ≤ 0; omega⟩ (fun H locs hw => ?_)
  refine W.eq (g2 := F0 m 17 ls [.int z1]) rfl ?_
  refine lv_if_ne (tgt := 62) hx hb dX10_result_17 (by decide) (fun c2 => ?_) (fun c2 => ?_)
  · have hf := ie hf c2
    refine lv_iconst (v := (0 : Int32)) hx hb dX10_result_62 (by decide) ?_
    obtain ⟨rfl, rfl⟩ := sp hf
    exact r_iret C hw rfl rfl (by omega) (by omega) dX10_result_63
  · have hf := ip hf c2
    refine lv_aload_n hx hb dX10_result_20 rfl (lv_at hl 0 rfl) ?_
    refine lv_aload_n hx hb dX10_result_21 rfl (lv_at hl 0 rfl) ?_
    obtain ⟨z3, e3, hf⟩ := ob hf
    refine r_gR C hw e3 ck10 rfl (by decide) w964 dX10_result_22 ?_
    cases z3 with
    | none =>
      have hf := on_n hf
      cases hf
    | some a4 =>
      have hf := on_s hf
      refine W.eq (g2 := F0 m 25 ls [.ref a4, .ref x0]) rfl ?_
      refine lv_iload_n hx hb dX10_result_25 rfl (lv_at hl 1 rfl) ?_
      obtain ⟨z5, e5, hf⟩ := ob hf
      refine r_zald C hw e5 dX10_result_26 ?_
      refine lv_if_eq (tgt := 50) hx hb dX10_result_27 (by decide) (fun c6 => ?_) (fun c6 => ?_)
      · have hf := ip hf c6
        exact bX10_result_50 C hn _ _ _ _ _ _ hf _ _ _ _ _ (by omega) (by omega) hw (lv_sub hl [0, 1, 2] rfl)
      · have hf := ie hf c6
        refine lv_iload_n hx hb dX10_result_30 rfl (lv_at hl 2 rfl) ?_
        refine lv_aload_n hx hb dX10_result_31 rfl (lv_at hl 0 rfl) ?_
        obtain ⟨z7, e7, hf⟩ := ob hf
        refine r_gR C hw e7 ck10 rfl (by decide) w970 dX10_result_32 ?_
        cases z7 with
        | none =>
          have hf := on_n hf
          cases hf
        | some a8 =>
          have hf := on_s hf
          refine W.eq (g2 := F0 m 35 ls [.ref a8, .int x2, .ref x0]) rfl ?_
          refine lv_iload_n hx hb dX10_result_35 rfl (lv_at hl 1 rfl) ?_
          obtain ⟨z9, e9, hf⟩ := ob hf
          refine r_iald C hw e9 dX10_result_36 ?_
          refine lv_icmp_le (tgt := 50) hx hb dX10_result_37 (by decide) (fun c10 => ?_) (fun c10 => ?_)
          · have hf := ip hf c10
            exact bX10_result_50 C hn _ _ _ _ _ _ hf _ _ _ _ _ (by omega) (by omega) hw (lv_sub hl [0, 1, 2] rfl)
          · have hf := ie hf c10
            refine lv_iload_n hx hb dX10_result_40 rfl (lv_at hl 2 rfl) ?_
            refine lv_aload_n hx hb dX10_result_41 rfl (lv_at hl 0 rfl) ?_
            obtain ⟨z11, e11, hf⟩ := ob hf
            refine r_gR C hw e11 ck10 rfl (by decide) w969 dX10_result_42 ?_
            cases z11 with
            | none =>
              have hf := on_n hf
              cases hf
            | some a12 =>
              have hf := on_s hf
              refine W.eq (g2 := F0 m 45 ls [.ref a12, .int x2, .ref x0]) rfl ?_
              refine lv_iload_n hx hb dX10_result_45 rfl (lv_at hl 1 rfl) ?_
              obtain ⟨z13, e13, hf⟩ := ob hf
              refine r_iald C hw e13 dX10_result_46 ?_
              refine lv_icmp_le (tgt := 54) hx hb dX10_result_47 (by decide) (fun c14 => ?_) (fun c14 => ?_)
              · have hf := ip hf c14
                refine lv_iconst (v := (0 : Int32)) hx hb dX10_result_54 (by decide) ?_
                exact bX10_result_55 C hn _ _ _ _ _ _ _ hf _ _ _ _ _ (by omega) (by omega) hw (lv_sub hl [0, 1, 2] rfl)
              · have hf := ie hf c14
                exact bX10_result_50 C hn _ _ _ _ _ _ hf _ _ _ _ _ (by omega) (by omega) hw (lv_sub hl [0, 1, 2] rfl)
set_option maxRecDepth 100000 in
set_option maxHeartbeats 4000000 in
theorem bX10_result {D : va_G} {cy : Nat → ClassId} {s0 : Nat} {p : Program} {l : Launch} {e : Env} {s : State} {m : MethodId} {args : Array Value} {below : List Frame} {meth : Method} {c : Code} (C : CX D cy s0 p s m args meth c cX10_result 3 RX10 (some .int)) (hn : meth.name = "result") : ∀ (x0 : Nat) (x1 : Int32) (x2 : Int32) (h : Hp) (r : Int32 × Hp), fX10_result x0 x1 x2 h = some r → pX10_result D cy s0 p l e s m args below meth c r x0 x1 x2 h := by
  intro x0 x1 x2 h ⟨rv, rh⟩ hf H locs ls cells slots hc hs hw hl
  unfold fX10_result at hf
  have hx := C.1
  have hb := C.2.1
  refine lv_aload_n hx hb dX10_result_0 rfl (lv_at hl 0 rfl) ?_
  refine lv_iload_n hx hb dX10_result_1 rfl (lv_at hl 1 rfl) ?_
  obtain ⟨z1, h1, e1, hf⟩ := ob2 hf
  refine r_callS C hw (mX10_isNode e1) kXX10_isNode w1129 w1130 ⟨Nat.le_of_ble_eq_true rfl, Nat.le_of_ble_eq_true rfl⟩ rfl hl.1 (rest := [.ref x0]) rfl (Nat.le_of_ble_eq_true rfl) dX10_result_2 (mc := 0) (ms := 0) rfl rfl ⟨by show _ + 0 ≤ 0; omega, by show _ + 0 ≤ 0; omega⟩ (fun H locs hw => ?_)
  refine W.eq (g2 := F0 m 5 ls [.int z1, .ref x0]) rfl ?_
  refine lv_if_ne (tgt := 12) hx hb dX10_result_5 (by decide) (fun c2 => ?_) (fun c2 => ?_)
  · have hf := ie hf c2
    refine lv_iconst (v := (0 : Int32)) hx hb dX10_result_12 (by decide) ?_
    exact bX10_result_13 C hn _ _ _ _ _ _ _ hf _ _ _ _ _ (by omega) (by omega) hw (lv_sub hl [0, 1, 2] rfl)
  · have hf := ip hf c2
    refine lv_iconst (v := (1 : Int32)) hx hb dX10_result_8 (by decide) ?_
    refine lv_goto (tgt := 13) hx hb dX10_result_9 (by decide) ?_
    exact bX10_result_13 C hn _ _ _ _ _ _ _ hf _ _ _ _ _ (by omega) (by omega) hw (lv_sub hl [0, 1, 2] rfl)
theorem kXX10_result : MK yX10_result cX10_result 3 (some .int) 2 := ⟨w1244, w8, by decide +kernel⟩
theorem mX10_result {D : va_G} {cy : Nat → ClassId} {s0 : Nat} {l : Launch} {x0 : Nat} {x1 : Int32} {x2 : Int32} {h : Hp} {v : Int32} {h1 : Hp} (hf : fX10_result x0 x1 x2 h = some (v, h1)) : MT D cy s0 l yX10_result cX10_result 3 (some .int) rX10_result [.ref x0, .int x1, .int x2] h (some (.int v)) h1 := by
  refine MT.of (by decide +kernel) (Nat.le_of_ble_eq_true rfl) ?_
  intro p e s m below meth c H locs ls C hn hw hl
  exact bX10_result C hn _ _ _ _ _ hf _ _ _ _ _ (Nat.le_of_ble_eq_true rfl) (Nat.le_of_ble_eq_true rfl) hw hl
abbrev rX10_shrink : Room := { frames := 2, cells := 0, slots := 0, locals := 42 }
abbrev pX10_shrink_50 (D : va_G) (cy : Nat → ClassId) (s0 : Nat) (p : Program) (l : Launch) (e : Env) (s : State) (m : MethodId) (args : Array Value) (below : List Frame) (meth : Method) (c : Code) (r : Int32 × Hp) (x0 : Nat) (x1 : Int32) (y0 : Int32) (y1 : Nat) (h : Hp) : Prop := ∀ (H : Heap) (locs : List Loc) (ls : Array Slot) (cells slots : Nat), cells + (0) ≤ 0 → slots + (0) ≤ 0 → WS D cy s0 s h H locs → lv_has ls 2 [(0, .ref x0), (1, .int x1)] → W p l e rX10_shrink s m args below meth c H locs cells slots (MQ below (QQ D cy s0 (some (.int r.1)) r.2) args s 0 0 (fun q => s0 ≤ q)) (F0 m 50 ls [.int y0, .ref y1])
abbrev pX10_shrink_45 (D : va_G) (cy : Nat → ClassId) (s0 : Nat) (p : Program) (l : Launch) (e : Env) (s : State) (m : MethodId) (args : Array Value) (below : List Frame) (meth : Method) (c : Code) (r : Int32 × Hp) (x0 : Nat) (x1 : Int32) (y0 : Nat) (h : Hp) : Prop := ∀ (H : Heap) (locs : List Loc) (ls : Array Slot) (cells slots : Nat), cells + (0) ≤ 0 → slots + (0) ≤ 0 → WS D cy s0 s h H locs → lv_has ls 2 [(0, .ref x0), (1, .int x1)] → W p l e rX10_shrink s m args below meth c H locs cells slots (MQ below (QQ D cy s0 (some (.int r.1)) r.2) args s 0 0 (fun q => s0 ≤ q)) (F0 m 45 ls [.ref y0])
abbrev pX10_shrink_13 (D : va_G) (cy : Nat → ClassId) (s0 : Nat) (p : Program) (l : Launch) (e : Env) (s : State) (m : MethodId) (args : Array Value) (below : List Frame) (meth : Method) (c : Code) (r : Int32 × Hp) (x0 : Nat) (x1 : Int32) (y0 : Int32) (y1 : Nat) (h : Hp) : Prop := ∀ (H : Heap) (locs : List Loc) (ls : Array Slot) (cells slots : Nat), cells + (0) ≤ 0 → slots + (0) ≤ 0 → WS D cy s0 s h H locs → lv_has ls 2 [(0, .ref x0), (1, .int x1)] → W p l e rX10_shrink s m args below meth c H locs cells slots (MQ below (QQ D cy s0 (some (.int r.1)) r.2) args s 0 0 (fun q => s0 ≤ q)) (F0 m 13 ls [.int y0, .ref y1])
abbrev pX10_shrink (D : va_G) (cy : Nat → ClassId) (s0 : Nat) (p : Program) (l : Launch) (e : Env) (s : State) (m : MethodId) (args : Array Value) (below : List Frame) (meth : Method) (c : Code) (r : Int32 × Hp) (x0 : Nat) (x1 : Int32) (h : Hp) : Prop := ∀ (H : Heap) (locs : List Loc) (ls : Array Slot) (cells slots : Nat), cells + (0) ≤ 0 → slots + (0) ≤ 0 → WS D cy s0 s h H locs → lv_has ls 2 [(0, .ref x0), (1, .int x1)] → W p l e rX10_shrink s m args below meth c H locs cells slots (MQ below (QQ D cy s0 (some (.int r.1)) r.2) args s 0 0 (fun q => s0 ≤ q)) (F0 m 0 ls [])
set_option maxRecDepth 100000 in
set_option maxHeartbeats 4000000 in
theorem bX10_shrink_50 {D : va_G} {cy : Nat → ClassId} {s0 : Nat} {p : Program} {l : Launch} {e : Env} {s : State} {m : MethodId} {args : Array Value} {below : List Frame} {meth : Method} {c : Code} (C : CX D cy s0 p s m args meth c cX10_shrink 2 RX10 (some .int)) (hn : meth.name = "shrink") : ∀ (x0 : Nat) (x1 : Int32) (y0 : Int32) (y1 : Nat) (h : Hp) (r : Int32 × Hp), fX10_shrink_50 x0 x1 y0 y1 h = some r → pX10_shrink_50 D cy s0 p l e s m args below meth c r x0 x1 y0 y1 h := by
  intro x0 x1 y0 y1 h ⟨rv, rh⟩ hf H locs ls cells slots hc hs hw hl
  unfold fX10_shrink_50 at hf
  have hx := C.1
  have hb := C.2.1
  refine lv_iconst (v := (2 : Int32)) hx hb dX10_shrink_50 (by decide) ?_
  obtain ⟨kb1, hf⟩ := ig hf
  obtain ⟨z1, h1, e1, hf⟩ := ob2 hf
  refine r_callV C hw (mX10_bad e1) kXX10_bad ck10 rfl kb1 w1132 w1134 v35 ⟨Nat.le_of_ble_eq_true rfl, Nat.le_of_ble_eq_true rfl⟩ rfl hl.1 (rest := []) rfl (Nat.le_of_ble_eq_true rfl) dX10_shrink_51 (mc := 0) (ms := 0) rfl rfl ⟨by show _ + 0 ≤ 0; omega, by show _ + 0 ≤ 0; omega⟩ (fun H locs hw => ?_)
  refine W.eq (g2 := F0 m 54 ls [.int z1]) rfl ?_
  refine lv_if_eq (tgt := 59) hx hb dX10_shrink_54 (by decide) (fun c2 => ?_) (fun c2 => ?_)
  · have hf := ip hf c2
    refine lv_aload_n hx hb dX10_shrink_59 rfl (lv_at hl 0 rfl) ?_
    refine lv_iload_n hx hb dX10_shrink_60 rfl (lv_at hl 1 rfl) ?_
    obtain ⟨kb3, hf⟩ := ig hf
    obtain ⟨z3, h3, e3, hf⟩ := ob2 hf
    refine r_callV C hw (mX10_record e3) kXX10_record ck10 rfl kb3 w1136 w1138 v36 ⟨Nat.le_of_ble_eq_true rfl, Nat.le_of_ble_eq_true rfl⟩ rfl hl.1 (rest := []) rfl (Nat.le_of_ble_eq_true rfl) dX10_shrink_61 (mc := 0) (ms := 0) rfl rfl ⟨by show _ + 0 ≤ 0; omega, by show _ + 0 ≤ 0; omega⟩ (fun H locs hw => ?_)
    refine W.eq (g2 := F0 m 64 ls [.int z3]) rfl ?_
    refine lv_if_eq (tgt := 79) hx hb dX10_shrink_64 (by decide) (fun c4 => ?_) (fun c4 => ?_)
    · have hf := ip hf c4
      refine lv_aload_n hx hb dX10_shrink_79 rfl (lv_at hl 0 rfl) ?_
      obtain ⟨z5, e5, hf⟩ := ob hf
      refine r_gR C hw e5 ck10 rfl (by decide) w967 dX10_shrink_80 ?_
      cases z5 with
      | none =>
        have hf := on_n hf
        cases hf
      | some a6 =>
        have hf := on_s hf
        refine W.eq (g2 := F0 m 83 ls [.ref a6]) rfl ?_
        refine lv_iload_n hx hb dX10_shrink_83 rfl (lv_at hl 1 rfl) ?_
        obtain ⟨z7, e7, hf⟩ := ob hf
        refine r_iald C hw e7 dX10_shrink_84 ?_
        obtain ⟨rfl, rfl⟩ := sp hf
        exact r_iret C hw rfl rfl (by omega) (by omega) dX10_shrink_85
    · have hf := ie hf c4
      refine lv_aload_n hx hb dX10_shrink_67 rfl (lv_at hl 0 rfl) ?_
      obtain ⟨z8, e8, hf⟩ := ob hf
      refine r_gR C hw e8 ck10 rfl (by decide) w967 dX10_shrink_68 ?_
      cases z8 with
      | none =>
        have hf := on_n hf
        cases hf
      | some a9 =>
        have hf := on_s hf
        refine W.eq (g2 := F0 m 71 ls [.ref a9]) rfl ?_
        refine lv_iload_n hx hb dX10_shrink_71 rfl (lv_at hl 1 rfl) ?_
        refine lv_aload_n hx hb dX10_shrink_72 rfl (lv_at hl 0 rfl) ?_
        obtain ⟨z10, e10, hf⟩ := ob hf
        refine r_gR C hw e10 ck10 rfl (by decide) w969 dX10_shrink_73 ?_
        cases z10 with
        | none =>
          have hf := on_n hf
          cases hf
        | some a11 =>
          have hf := on_s hf
          refine W.eq (g2 := F0 m 76 ls [.ref a11, .int x1, .ref a9]) rfl ?_
          refine lv_iload_n hx hb dX10_shrink_76 rfl (lv_at hl 1 rfl) ?_
          obtain ⟨z12, e12, hf⟩ := ob hf
          refine r_iald C hw e12 dX10_shrink_77 ?_
          obtain ⟨h13, e13, hf⟩ := ob hf
          refine r_iast C hw e13 dX10_shrink_78 (fun H locs hw => ?_)
          refine lv_aload_n hx hb dX10_shrink_79 rfl (lv_at hl 0 rfl) ?_
          obtain ⟨z14, e14, hf⟩ := ob hf
          refine r_gR C hw e14 ck10 rfl (by decide) w967 dX10_shrink_80 ?_
          cases z14 with
          | none =>
            have hf := on_n hf
            cases hf
          | some a15 =>
            have hf := on_s hf
            refine W.eq (g2 := F0 m 83 ls [.ref a15]) rfl ?_
            refine lv_iload_n hx hb dX10_shrink_83 rfl (lv_at hl 1 rfl) ?_
            obtain ⟨z16, e16, hf⟩ := ob hf
            refine r_iald C hw e16 dX10_shrink_84 ?_
            obtain ⟨rfl, rfl⟩ := sp hf
            exact r_iret C hw rfl rfl (by omega) (by omega) dX10_shrink_85
  · have hf := ie hf c2
    refine lv_iconst (v := (0 : Int32)) hx hb dX10_shrink_57 (by decide) ?_
    obtain ⟨rfl, rfl⟩ := sp hf
    exact r_iret C hw rfl rfl (by omega) (by omega) dX10_shrink_58
set_option maxRecDepth 100000 in
set_option maxHeartbeats 4000000 in
theorem bX10_shrink_45 {D : va_G} {cy : Nat → ClassId} {s0 : Nat} {p : Program} {l : Launch} {e : Env} {s : State} {m : MethodId} {args : Array Value} {below : List Frame} {meth : Method} {c : Code} (C : CX D cy s0 p s m args meth c cX10_shrink 2 RX10 (some .int)) (hn : meth.name = "shrink") : ∀ (x0 : Nat) (x1 : Int32) (y0 : Nat) (h : Hp) (r : Int32 × Hp), fX10_shrink_45 x0 x1 y0 h = some r → pX10_shrink_45 D cy s0 p l e s m args below meth c r x0 x1 y0 h := by
  intro x0 x1 y0 h ⟨rv, rh⟩ hf H locs ls cells slots hc hs hw hl
  unfold fX10_shrink_45 at hf
  have hx := C.1
  have hb := C.2.1
  refine lv_iconst (v := (1 : Int32)) hx hb dX10_shrink_45 (by decide) ?_
  refine lv_goto (tgt := 50) hx hb dX10_shrink_46 (by decide) ?_
  exact bX10_shrink_50 C hn _ _ _ _ _ _ hf _ _ _ _ _ (by omega) (by omega) hw (lv_sub hl [0, 1] rfl)
set_option maxRecDepth 100000 in
set_option maxHeartbeats 4000000 in
theorem bX10_shrink_13 {D : va_G} {cy : Nat → ClassId} {s0 : Nat} {p : Program} {l : Launch} {e : Env} {s : State} {m : MethodId} {args : Array Value} {below : List Frame} {meth : Method} {c : Code} (C : CX D cy s0 p s m args meth c cX10_shrink 2 RX10 (some .int)) (hn : meth.name = "shrink") : ∀ (x0 : Nat) (x1 : Int32) (y0 : Int32) (y1 : Nat) (h : Hp) (r : Int32 × Hp), fX10_shrink_13 x0 x1 y0 y1 h = some r → pX10_shrink_13 D cy s0 p l e s m args below meth c r x0 x1 y0 y1 h := by
  intro x0 x1 y0 y1 h ⟨rv, rh⟩ hf H locs ls cells slots hc hs hw hl
  unfold fX10_shrink_13 at hf
  have hx := C.1
  have hb := C.2.1
  refine lv_iconst (v := (1 : Int32)) hx hb dX10_shrink_13 (by decide) ?_
  obtain ⟨kb1, hf⟩ := ig hf
  obtain ⟨z1, h1, e1, hf⟩ := ob2 hf
  refine r_callV C hw (mX10_bad e1) kXX10_bad ck10 rfl kb1 w1132 w1134 v35 ⟨Nat.le_of_ble_eq_true rfl, Nat.le_of_ble_eq_true rfl⟩ rfl hl.1 (rest := []) rfl (Nat.le_of_ble_eq_true rfl) dX10_shrink_14 (mc := 0) (ms := 0) rfl rfl ⟨by show _ + 0 ≤ 0; omega, by show _ + 0 ≤ 0; omega⟩ (fun H locs hw => ?_)
  refine W.eq (g2 := F0 m 17 ls [.int z1]) rfl ?_
  refine lv_if_ne (tgt := 57) hx hb dX10_shrink_17 (by decide) (fun c2 => ?_) (fun c2 => ?_)
  · have hf := ie hf c2
    refine lv_iconst (v := (0 : Int32)) hx hb dX10_shrink_57 (by decide) ?_
    obtain ⟨rfl, rfl⟩ := sp hf
    exact r_iret C hw rfl rfl (by omega) (by omega) dX10_shrink_58
  · have hf := ip hf c2
    refine lv_aload_n hx hb dX10_shrink_20 rfl (lv_at hl 0 rfl) ?_
    refine lv_aload_n hx hb dX10_shrink_21 rfl (lv_at hl 0 rfl) ?_
    obtain ⟨z3, e3, hf⟩ := ob hf
    refine r_gR C hw e3 ck10 rfl (by decide) w964 dX10_shrink_22 ?_
    cases z3 with
    | none =>
      have hf := on_n hf
      cases hf
    | some a4 =>
      have hf := on_s hf
      refine W.eq (g2 := F0 m 25 ls [.ref a4, .ref x0]) rfl ?_
      refine lv_iload_n hx hb dX10_shrink_25 rfl (lv_at hl 1 rfl) ?_
      obtain ⟨z5, e5, hf⟩ := ob hf
      refine r_zald C hw e5 dX10_shrink_26 ?_
      refine lv_if_eq (tgt := 45) hx hb dX10_shrink_27 (by decide) (fun c6 => ?_) (fun c6 => ?_)
      · have hf := ip hf c6
        exact bX10_shrink_45 C hn _ _ _ _ _ hf _ _ _ _ _ (by omega) (by omega) hw (lv_sub hl [0, 1] rfl)
      · have hf := ie hf c6
        refine lv_aload_n hx hb dX10_shrink_30 rfl (lv_at hl 0 rfl) ?_
        obtain ⟨z7, e7, hf⟩ := ob hf
        refine r_gR C hw e7 ck10 rfl (by decide) w969 dX10_shrink_31 ?_
        cases z7 with
        | none =>
          have hf := on_n hf
          cases hf
        | some a8 =>
          have hf := on_s hf
          refine W.eq (g2 := F0 m 34 ls [.ref a8, .ref x0]) rfl ?_
          refine lv_iload_n hx hb dX10_shrink_34 rfl (lv_at hl 1 rfl) ?_
          obtain ⟨z9, e9, hf⟩ := ob hf
          refine r_iald C hw e9 dX10_shrink_35 ?_
          refine lv_aload_n hx hb dX10_shrink_36 rfl (lv_at hl 0 rfl) ?_
          obtain ⟨z10, e10, hf⟩ := ob hf
          refine r_gR C hw e10 ck10 rfl (by decide) w967 dX10_shrink_37 ?_
          cases z10 with
          | none =>
            have hf := on_n hf
            cases hf
          | some a11 =>
            have hf := on_s hf
            refine W.eq (g2 := F0 m 40 ls [.ref a11, .int z9, .ref x0]) rfl ?_
            refine lv_iload_n hx hb dX10_shrink_40 rfl (lv_at hl 1 rfl) ?_
            obtain ⟨z12, e12, hf⟩ := ob hf
            refine r_iald C hw e12 dX10_shrink_41 ?_
            refine lv_icmp_ne (tgt := 49) hx hb dX10_shrink_42 (by decide) (fun c13 => ?_) (fun c13 => ?_)
            · have hf := ie hf c13
              refine lv_iconst (v := (0 : Int32)) hx hb dX10_shrink_49 (by decide) ?_
              exact bX10_shrink_50 C hn _ _ _ _ _ _ hf _ _ _ _ _ (by omega) (by omega) hw (lv_sub hl [0, 1] rfl)
            · have hf := ip hf c13
              exact bX10_shrink_45 C hn _ _ _ _ _ hf _ _ _ _ _ (by omega) (by omega) hw (lv_sub hl [0, 1] rfl)
set_option maxRecDepth 100000 in
set_option maxHeartbeats 4000000 in
theorem bX10_shrink {D : va_G} {cy : Nat → ClassId} {s0 : Nat} {p : Program} {l : Launch} {e : Env} {s : State} {m : MethodId} {args : Array Value} {below : List Frame} {meth : Method} {c : Code} (C : CX D cy s0 p s m args meth c cX10_shrink 2 RX10 (some .int)) (hn : meth.name = "shrink") : ∀ (x0 : Nat) (x1 : Int32) (h : Hp) (r : Int32 × Hp), fX10_shrink x0 x1 h = some r → pX10_shrink D cy s0 p l e s m args below meth c r x0 x1 h := by
  intro x0 x1 h ⟨rv, rh⟩ hf H locs ls cells slots hc hs hw hl
  unfold fX10_shrink at hf
  have hx := C.1
  have hb := C.2.1
  refine lv_aload_n hx hb dX10_shrink_0 rfl (lv_at hl 0 rfl) ?_
  refine lv_iload_n hx hb dX10_shrink_1 rfl (lv_at hl 1 rfl) ?_
  obtain ⟨z1, h1, e1, hf⟩ := ob2 hf
  refine r_callS C hw (mX10_isNode e1) kXX10_isNode w1129 w1130 ⟨Nat.le_of_ble_eq_true rfl, Nat.le_of_ble_eq_true rfl⟩ rfl hl.1 (rest := [.ref x0]) rfl (Nat.le_of_ble_eq_true rfl) dX10_shrink_2 (mc := 0) (ms := 0) rfl rfl ⟨by show _ + 0 ≤ 0; omega, by show _ + 0 ≤ 0; omega⟩ (fun H locs hw => ?_)
  refine W.eq (g2 := F0 m 5 ls [.int z1, .ref x0]) rfl ?_
  refine lv_if_ne (tgt := 12) hx hb dX10_shrink_5 (by decide) (fun c2 => ?_) (fun c2 => ?_)
  · have hf := ie hf c2
    refine lv_iconst (v := (0 : Int32)) hx hb dX10_shrink_12 (by decide) ?_
    exact bX10_shrink_13 C hn _ _ _ _ _ _ hf _ _ _ _ _ (by omega) (by omega) hw (lv_sub hl [0, 1] rfl)
  · have hf := ip hf c2
    refine lv_iconst (v := (1 : Int32)) hx hb dX10_shrink_8 (by decide) ?_
    refine lv_goto (tgt := 13) hx hb dX10_shrink_9 (by decide) ?_
    exact bX10_shrink_13 C hn _ _ _ _ _ _ hf _ _ _ _ _ (by omega) (by omega) hw (lv_sub hl [0, 1] rfl)
theorem kXX10_shrink : MK yX10_shrink cX10_shrink 2 (some .int) 1 := ⟨w1228, w8, by decide +kernel⟩
theorem mX10_shrink {D : va_G} {cy : Nat → ClassId} {s0 : Nat} {l : Launch} {x0 : Nat} {x1 : Int32} {h : Hp} {v : Int32} {h1 : Hp} (hf : fX10_shrink x0 x1 h = some (v, h1)) : MT D cy s0 l yX10_shrink cX10_shrink 2 (some .int) rX10_shrink [.ref x0, .int x1] h (some (.int v)) h1 := by
  refine MT.of (by decide +kernel) (Nat.le_of_ble_eq_true rfl) ?_
  intro p e s m below meth c H locs ls C hn hw hl
  exact bX10_shrink C hn _ _ _ _ hf _ _ _ _ _ (Nat.le_of_ble_eq_true rfl) (Nat.le_of_ble_eq_true rfl) hw hl
abbrev rX10_start : Room := { frames := 1, cells := 0, slots := 0, locals := 22 }
abbrev pX10_start_13 (D : va_G) (cy : Nat → ClassId) (s0 : Nat) (p : Program) (l : Launch) (e : Env) (s : State) (m : MethodId) (args : Array Value) (below : List Frame) (meth : Method) (c : Code) (r : Int32 × Hp) (x0 : Nat) (x1 : Int32) (y0 : Int32) (y1 : Nat) (h : Hp) : Prop := ∀ (H : Heap) (locs : List Loc) (ls : Array Slot) (cells slots : Nat), cells + (0) ≤ 0 → slots + (0) ≤ 0 → WS D cy s0 s h H locs → lv_has ls 2 [(0, .ref x0), (1, .int x1)] → W p l e rX10_start s m args below meth c H locs cells slots (MQ below (QQ D cy s0 (some (.int r.1)) r.2) args s 0 0 (fun q => s0 ≤ q)) (F0 m 13 ls [.int y0, .ref y1])
abbrev pX10_start (D : va_G) (cy : Nat → ClassId) (s0 : Nat) (p : Program) (l : Launch) (e : Env) (s : State) (m : MethodId) (args : Array Value) (below : List Frame) (meth : Method) (c : Code) (r : Int32 × Hp) (x0 : Nat) (x1 : Int32) (h : Hp) : Prop := ∀ (H : Heap) (locs : List Loc) (ls : Array Slot) (cells slots : Nat), cells + (0) ≤ 0 → slots + (0) ≤ 0 → WS D cy s0 s h H locs → lv_has ls 2 [(0, .ref x0), (1, .int x1)] → W p l e rX10_start s m args below meth c H locs cells slots (MQ below (QQ D cy s0 (some (.int r.1)) r.2) args s 0 0 (fun q => s0 ≤ q)) (F0 m 0 ls [])
set_option maxRecDepth 100000 in
set_option maxHeartbeats 4000000 in
theorem bX10_start_13 {D : va_G} {cy : Nat → ClassId} {s0 : Nat} {p : Program} {l : Launch} {e : Env} {s : State} {m : MethodId} {args : Array Value} {below : List Frame} {meth : Method} {c : Code} (C : CX D cy s0 p s m args meth c cX10_start 2 RX10 (some .int)) (hn : meth.name = "start") : ∀ (x0 : Nat) (x1 : Int32) (y0 : Int32) (y1 : Nat) (h : Hp) (r : Int32 × Hp), fX10_start_13 x0 x1 y0 y1 h = some r → pX10_start_13 D cy s0 p l e s m args below meth c r x0 x1 y0 y1 h := by
  intro x0 x1 y0 y1 h ⟨rv, rh⟩ hf H locs ls cells slots hc hs hw hl
  unfold fX10_start_13 at hf
  have hx := C.1
  have hb := C.2.1
  refine lv_iconst (v := (1 : Int32)) hx hb dX10_start_13 (by decide) ?_
  obtain ⟨kb1, hf⟩ := ig hf
  obtain ⟨z1, h1, e1, hf⟩ := ob2 hf
  refine r_callV C hw (mX10_bad e1) kXX10_bad ck10 rfl kb1 w1132 w1134 v35 ⟨Nat.le_of_ble_eq_true rfl, Nat.le_of_ble_eq_true rfl⟩ rfl hl.1 (rest := []) rfl (Nat.le_of_ble_eq_true rfl) dX10_start_14 (mc := 0) (ms := 0) rfl rfl ⟨by show _ + 0 ≤ 0; omega, by show _ + 0 ≤ 0; omega⟩ (fun H locs hw => ?_)
  refine W.eq (g2 := F0 m 17 ls [.int z1]) rfl ?_
  refine lv_if_ne (tgt := 34) hx hb dX10_start_17 (by decide) (fun c2 => ?_) (fun c2 => ?_)
  · have hf := ie hf c2
    refine lv_iconst (v := (0 : Int32)) hx hb dX10_start_34 (by decide) ?_
    obtain ⟨rfl, rfl⟩ := sp hf
    exact r_iret C hw rfl rfl (by omega) (by omega) dX10_start_35
  · have hf := ip hf c2
    refine lv_aload_n hx hb dX10_start_20 rfl (lv_at hl 0 rfl) ?_
    refine lv_aload_n hx hb dX10_start_21 rfl (lv_at hl 0 rfl) ?_
    obtain ⟨z3, e3, hf⟩ := ob hf
    refine r_gR C hw e3 ck10 rfl (by decide) w964 dX10_start_22 ?_
    cases z3 with
    | none =>
      have hf := on_n hf
      cases hf
    | some a4 =>
      have hf := on_s hf
      refine W.eq (g2 := F0 m 25 ls [.ref a4, .ref x0]) rfl ?_
      refine lv_iload_n hx hb dX10_start_25 rfl (lv_at hl 1 rfl) ?_
      obtain ⟨z5, e5, hf⟩ := ob hf
      refine r_zald C hw e5 dX10_start_26 ?_
      refine lv_iconst (v := (2 : Int32)) hx hb dX10_start_27 (by decide) ?_
      obtain ⟨kb6, hf⟩ := ig hf
      obtain ⟨z6, h6, e6, hf⟩ := ob2 hf
      refine r_callV C hw (mX10_bad e6) kXX10_bad ck10 rfl kb6 w1132 w1134 v35 ⟨Nat.le_of_ble_eq_true rfl, Nat.le_of_ble_eq_true rfl⟩ rfl hl.1 (rest := []) rfl (Nat.le_of_ble_eq_true rfl) dX10_start_28 (mc := 0) (ms := 0) rfl rfl ⟨by show _ + 0 ≤ 0; omega, by show _ + 0 ≤ 0; omega⟩ (fun H locs hw => ?_)
      refine W.eq (g2 := F0 m 31 ls [.int z6]) rfl ?_
      refine lv_if_eq (tgt := 36) hx hb dX10_start_31 (by decide) (fun c7 => ?_) (fun c7 => ?_)
      · have hf := ip hf c7
        refine lv_aload_n hx hb dX10_start_36 rfl (lv_at hl 0 rfl) ?_
        obtain ⟨z8, e8, hf⟩ := ob hf
        refine r_gR C hw e8 ck10 rfl (by decide) w964 dX10_start_37 ?_
        cases z8 with
        | none =>
          have hf := on_n hf
          cases hf
        | some a9 =>
          have hf := on_s hf
          refine W.eq (g2 := F0 m 40 ls [.ref a9]) rfl ?_
          refine lv_iload_n hx hb dX10_start_40 rfl (lv_at hl 1 rfl) ?_
          refine lv_iconst (v := (1 : Int32)) hx hb dX10_start_41 (by decide) ?_
          obtain ⟨h10, e10, hf⟩ := ob hf
          refine r_zast C hw e10 dX10_start_42 (fun H locs hw => ?_)
          refine lv_aload_n hx hb dX10_start_43 rfl (lv_at hl 0 rfl) ?_
          obtain ⟨z11, e11, hf⟩ := ob hf
          refine r_gR C hw e11 ck10 rfl (by decide) w969 dX10_start_44 ?_
          cases z11 with
          | none =>
            have hf := on_n hf
            cases hf
          | some a12 =>
            have hf := on_s hf
            refine W.eq (g2 := F0 m 47 ls [.ref a12]) rfl ?_
            refine lv_iload_n hx hb dX10_start_47 rfl (lv_at hl 1 rfl) ?_
            refine lv_aload_n hx hb dX10_start_48 rfl (lv_at hl 0 rfl) ?_
            obtain ⟨z13, e13, hf⟩ := ob hf
            refine r_gR C hw e13 ck10 rfl (by decide) w967 dX10_start_49 ?_
            cases z13 with
            | none =>
              have hf := on_n hf
              cases hf
            | some a14 =>
              have hf := on_s hf
              refine W.eq (g2 := F0 m 52 ls [.ref a14, .int x1, .ref a12]) rfl ?_
              refine lv_iload_n hx hb dX10_start_52 rfl (lv_at hl 1 rfl) ?_
              obtain ⟨z15, e15, hf⟩ := ob hf
              refine r_iald C hw e15 dX10_start_53 ?_
              obtain ⟨h16, e16, hf⟩ := ob hf
              refine r_iast C hw e16 dX10_start_54 (fun H locs hw => ?_)
              refine lv_aload_n hx hb dX10_start_55 rfl (lv_at hl 0 rfl) ?_
              obtain ⟨z17, e17, hf⟩ := ob hf
              refine r_gR C hw e17 ck10 rfl (by decide) w970 dX10_start_56 ?_
              cases z17 with
              | none =>
                have hf := on_n hf
                cases hf
              | some a18 =>
                have hf := on_s hf
                refine W.eq (g2 := F0 m 59 ls [.ref a18]) rfl ?_
                refine lv_iload_n hx hb dX10_start_59 rfl (lv_at hl 1 rfl) ?_
                refine lv_aload_n hx hb dX10_start_60 rfl (lv_at hl 0 rfl) ?_
                obtain ⟨z19, e19, hf⟩ := ob hf
                refine r_gR C hw e19 ck10 rfl (by decide) w967 dX10_start_61 ?_
                cases z19 with
                | none =>
                  have hf := on_n hf
                  cases hf
                | some a20 =>
                  have hf := on_s hf
                  refine W.eq (g2 := F0 m 64 ls [.ref a20, .int x1, .ref a18]) rfl ?_
                  refine lv_iload_n hx hb dX10_start_64 rfl (lv_at hl 1 rfl) ?_
                  obtain ⟨z21, e21, hf⟩ := ob hf
                  refine r_iald C hw e21 dX10_start_65 ?_
                  obtain ⟨h22, e22, hf⟩ := ob hf
                  refine r_iast C hw e22 dX10_start_66 (fun H locs hw => ?_)
                  refine lv_aload_n hx hb dX10_start_67 rfl (lv_at hl 0 rfl) ?_
                  obtain ⟨z23, e23, hf⟩ := ob hf
                  refine r_gR C hw e23 ck10 rfl (by decide) w972 dX10_start_68 ?_
                  cases z23 with
                  | none =>
                    have hf := on_n hf
                    cases hf
                  | some a24 =>
                    have hf := on_s hf
                    refine W.eq (g2 := F0 m 71 ls [.ref a24]) rfl ?_
                    refine lv_iload_n hx hb dX10_start_71 rfl (lv_at hl 1 rfl) ?_
                    refine lv_iconst (v := (0 : Int32)) hx hb dX10_start_72 (by decide) ?_
                    obtain ⟨h25, e25, hf⟩ := ob hf
                    refine r_iast C hw e25 dX10_start_73 (fun H locs hw => ?_)
                    refine lv_aload_n hx hb dX10_start_74 rfl (lv_at hl 0 rfl) ?_
                    obtain ⟨z26, e26, hf⟩ := ob hf
                    refine r_gR C hw e26 ck10 rfl (by decide) w968 dX10_start_75 ?_
                    cases z26 with
                    | none =>
                      have hf := on_n hf
                      cases hf
                    | some a27 =>
                      have hf := on_s hf
                      refine W.eq (g2 := F0 m 78 ls [.ref a27]) rfl ?_
                      refine lv_iload_n hx hb dX10_start_78 rfl (lv_at hl 1 rfl) ?_
                      obtain ⟨z28, e28, hf⟩ := ob hf
                      refine r_iald C hw e28 dX10_start_79 ?_
                      obtain ⟨rfl, rfl⟩ := sp hf
                      exact r_iret C hw rfl rfl (by omega) (by omega) dX10_start_80
      · have hf := ie hf c7
        refine lv_iconst (v := (0 : Int32)) hx hb dX10_start_34 (by decide) ?_
        obtain ⟨rfl, rfl⟩ := sp hf
        exact r_iret C hw rfl rfl (by omega) (by omega) dX10_start_35
set_option maxRecDepth 100000 in
set_option maxHeartbeats 4000000 in
theorem bX10_start {D : va_G} {cy : Nat → ClassId} {s0 : Nat} {p : Program} {l : Launch} {e : Env} {s : State} {m : MethodId} {args : Array Value} {below : List Frame} {meth : Method} {c : Code} (C : CX D cy s0 p s m args meth c cX10_start 2 RX10 (some .int)) (hn : meth.name = "start") : ∀ (x0 : Nat) (x1 : Int32) (h : Hp) (r : Int32 × Hp), fX10_start x0 x1 h = some r → pX10_start D cy s0 p l e s m args below meth c r x0 x1 h := by
  intro x0 x1 h ⟨rv, rh⟩ hf H locs ls cells slots hc hs hw hl
  unfold fX10_start at hf
  have hx := C.1
  have hb := C.2.1
  refine lv_aload_n hx hb dX10_start_0 rfl (lv_at hl 0 rfl) ?_
  refine lv_iload_n hx hb dX10_start_1 rfl (lv_at hl 1 rfl) ?_
  obtain ⟨z1, h1, e1, hf⟩ := ob2 hf
  refine r_callS C hw (mX10_isNode e1) kXX10_isNode w1129 w1130 ⟨Nat.le_of_ble_eq_true rfl, Nat.le_of_ble_eq_true rfl⟩ rfl hl.1 (rest := [.ref x0]) rfl (Nat.le_of_ble_eq_true rfl) dX10_start_2 (mc := 0) (ms := 0) rfl rfl ⟨by show _ + 0 ≤ 0; omega, by show _ + 0 ≤ 0; omega⟩ (fun H locs hw => ?_)
  refine W.eq (g2 := F0 m 5 ls [.int z1, .ref x0]) rfl ?_
  refine lv_if_ne (tgt := 12) hx hb dX10_start_5 (by decide) (fun c2 => ?_) (fun c2 => ?_)
  · have hf := ie hf c2
    refine lv_iconst (v := (0 : Int32)) hx hb dX10_start_12 (by decide) ?_
    exact bX10_start_13 C hn _ _ _ _ _ _ hf _ _ _ _ _ (by omega) (by omega) hw (lv_sub hl [0, 1] rfl)
  · have hf := ip hf c2
    refine lv_iconst (v := (1 : Int32)) hx hb dX10_start_8 (by decide) ?_
    refine lv_goto (tgt := 13) hx hb dX10_start_9 (by decide) ?_
    exact bX10_start_13 C hn _ _ _ _ _ _ hf _ _ _ _ _ (by omega) (by omega) hw (lv_sub hl [0, 1] rfl)
theorem kXX10_start : MK yX10_start cX10_start 2 (some .int) 1 := ⟨w1236, w8, by decide +kernel⟩
theorem mX10_start {D : va_G} {cy : Nat → ClassId} {s0 : Nat} {l : Launch} {x0 : Nat} {x1 : Int32} {h : Hp} {v : Int32} {h1 : Hp} (hf : fX10_start x0 x1 h = some (v, h1)) : MT D cy s0 l yX10_start cX10_start 2 (some .int) rX10_start [.ref x0, .int x1] h (some (.int v)) h1 := by
  refine MT.of (by decide +kernel) (Nat.le_of_ble_eq_true rfl) ?_
  intro p e s m below meth c H locs ls C hn hw hl
  exact bX10_start C hn _ _ _ _ hf _ _ _ _ _ (Nat.le_of_ble_eq_true rfl) (Nat.le_of_ble_eq_true rfl) hw hl
abbrev rX10_thrown : Room := { frames := 0, cells := 0, slots := 0, locals := 0 }
abbrev pX10_thrown (D : va_G) (cy : Nat → ClassId) (s0 : Nat) (p : Program) (l : Launch) (e : Env) (s : State) (m : MethodId) (args : Array Value) (below : List Frame) (meth : Method) (c : Code) (r : Int32 × Hp) (x0 : Nat) (h : Hp) : Prop := ∀ (H : Heap) (locs : List Loc) (ls : Array Slot) (cells slots : Nat), cells + (0) ≤ 0 → slots + (0) ≤ 0 → WS D cy s0 s h H locs → lv_has ls 1 [(0, .ref x0)] → W p l e rX10_thrown s m args below meth c H locs cells slots (MQ below (QQ D cy s0 (some (.int r.1)) r.2) args s 0 0 (fun q => s0 ≤ q)) (F0 m 0 ls [])
set_option maxRecDepth 100000 in
set_option maxHeartbeats 4000000 in
theorem bX10_thrown {D : va_G} {cy : Nat → ClassId} {s0 : Nat} {p : Program} {l : Launch} {e : Env} {s : State} {m : MethodId} {args : Array Value} {below : List Frame} {meth : Method} {c : Code} (C : CX D cy s0 p s m args meth c cX10_thrown 1 RX10 (some .int)) (hn : meth.name = "thrown") : ∀ (x0 : Nat) (h : Hp) (r : Int32 × Hp), fX10_thrown x0 h = some r → pX10_thrown D cy s0 p l e s m args below meth c r x0 h := by
  intro x0 h ⟨rv, rh⟩ hf H locs ls cells slots hc hs hw hl
  unfold fX10_thrown at hf
  have hx := C.1
  have hb := C.2.1
  refine lv_aload_n hx hb dX10_thrown_0 rfl (lv_at hl 0 rfl) ?_
  obtain ⟨z1, e1, hf⟩ := ob hf
  refine r_gI C hw e1 ck10 rfl (by decide) w963 dX10_thrown_1 ?_
  obtain ⟨rfl, rfl⟩ := sp hf
  exact r_iret C hw rfl rfl (by omega) (by omega) dX10_thrown_4
theorem kXX10_thrown : MK yX10_thrown cX10_thrown 1 (some .int) 0 := ⟨w1124, w8, by decide +kernel⟩
theorem mX10_thrown {D : va_G} {cy : Nat → ClassId} {s0 : Nat} {l : Launch} {x0 : Nat} {h : Hp} {v : Int32} {h1 : Hp} (hf : fX10_thrown x0 h = some (v, h1)) : MT D cy s0 l yX10_thrown cX10_thrown 1 (some .int) rX10_thrown [.ref x0] h (some (.int v)) h1 := by
  refine MT.of (by decide +kernel) (Nat.le_of_ble_eq_true rfl) ?_
  intro p e s m below meth c H locs ls C hn hw hl
  exact bX10_thrown C hn _ _ _ hf _ _ _ _ _ (Nat.le_of_ble_eq_true rfl) (Nat.le_of_ble_eq_true rfl) hw hl
abbrev rX1_entryAt : Room := { frames := 0, cells := 0, slots := 0, locals := 0 }
abbrev pX1_entryAt (D : va_G) (cy : Nat → ClassId) (s0 : Nat) (p : Program) (l : Launch) (e : Env) (s : State) (m : MethodId) (args : Array Value) (below : List Frame) (meth : Method) (c : Code) (r : Option Nat × Hp) (x0 : Nat) (x1 : Int32) (h : Hp) : Prop := ∀ (H : Heap) (locs : List Loc) (ls : Array Slot) (cells slots : Nat), cells + (0) ≤ 0 → slots + (0) ≤ 0 → WS D cy s0 s h H locs → lv_has ls 2 [(0, .ref x0), (1, .int x1)] → W p l e rX1_entryAt s m args below meth c H locs cells slots (MQ below (QQ D cy s0 (some (va_rf r.1)) r.2) args s 0 0 (fun q => s0 ≤ q)) (F0 m 0 ls [])
set_option maxRecDepth 100000 in
set_option maxHeartbeats 4000000 in
theorem bX1_entryAt {D : va_G} {cy : Nat → ClassId} {s0 : Nat} {p : Program} {l : Launch} {e : Env} {s : State} {m : MethodId} {args : Array Value} {below : List Frame} {meth : Method} {c : Code} (C : CX D cy s0 p s m args meth c cX1_entryAt 2 RX1 (some (.object "RaftRegistry$Entry"))) (hn : meth.name = "entryAt") : ∀ (x0 : Nat) (x1 : Int32) (h : Hp) (r : Option Nat × Hp), fX1_entryAt x0 x1 h = some r → pX1_entryAt D cy s0 p l e s m args below meth c r x0 x1 h := by
  intro x0 x1 h ⟨rv, rh⟩ hf H locs ls cells slots hc hs hw hl
  unfold fX1_entryAt at hf
  have hx := C.1
  have hb := C.2.1
  refine lv_iload_n hx hb dX1_entryAt_0 rfl (lv_at hl 1 rfl) ?_
  refine lv_aload_n hx hb dX1_entryAt_1 rfl (lv_at hl 0 rfl) ?_
  obtain ⟨z1, e1, hf⟩ := ob hf
  refine r_gR C hw e1 ck1 rfl (by decide) w169 dX1_entryAt_2 ?_
  cases z1 with
  | none =>
    have hf := on_n hf
    cases hf
  | some a2 =>
    have hf := on_s hf
    refine W.eq (g2 := F0 m 5 ls [.ref a2, .int x1]) rfl ?_
    obtain ⟨z3, e3, hf⟩ := ob hf
    refine r_gI C hw e3 ck6 rfl (by decide) w133 dX1_entryAt_5 ?_
    refine lv_icmp_le (tgt := 28) hx hb dX1_entryAt_8 (by decide) (fun c4 => ?_) (fun c4 => ?_)
    · have hf := ip hf c4
      refine lv_null hx hb dX1_entryAt_28 ?_
      obtain ⟨rfl, rfl⟩ := sp hf
      exact r_aret C hw rfl rfl (Or.inl ⟨_, rfl⟩) (by omega) (by omega) dX1_entryAt_29
    · have hf := ie hf c4
      refine lv_iload_n hx hb dX1_entryAt_11 rfl (lv_at hl 1 rfl) ?_
      refine lv_aload_n hx hb dX1_entryAt_12 rfl (lv_at hl 0 rfl) ?_
      obtain ⟨z5, e5, hf⟩ := ob hf
      refine r_gI C hw e5 ck1 rfl (by decide) w167 dX1_entryAt_13 ?_
      refine lv_icmp_gt (tgt := 28) hx hb dX1_entryAt_16 (by decide) (fun c6 => ?_) (fun c6 => ?_)
      · have hf := ip hf c6
        refine lv_null hx hb dX1_entryAt_28 ?_
        obtain ⟨rfl, rfl⟩ := sp hf
        exact r_aret C hw rfl rfl (Or.inl ⟨_, rfl⟩) (by omega) (by omega) dX1_entryAt_29
      · have hf := ie hf c6
        refine lv_iload_n hx hb dX1_entryAt_19 rfl (lv_at hl 1 rfl) ?_
        refine lv_aload_n hx hb dX1_entryAt_20 rfl (lv_at hl 0 rfl) ?_
        obtain ⟨z7, e7, hf⟩ := ob hf
        refine r_gR C hw e7 ck1 rfl (by decide) w175 dX1_entryAt_21 ?_
        cases z7 with
        | none =>
          have hf := on_n hf
          cases hf
        | some a8 =>
          have hf := on_s hf
          refine W.eq (g2 := F0 m 24 ls [.ref a8, .int x1]) rfl ?_
          obtain ⟨z9, e9, hf⟩ := ob hf
          refine r_alen C hw e9 (by decide) rfl dX1_entryAt_24 ?_
          refine lv_icmp_lt (tgt := 30) hx hb dX1_entryAt_25 (by decide) (fun c10 => ?_) (fun c10 => ?_)
          · have hf := ip hf c10
            refine lv_aload_n hx hb dX1_entryAt_30 rfl (lv_at hl 0 rfl) ?_
            obtain ⟨z11, e11, hf⟩ := ob hf
            refine r_gR C hw e11 ck1 rfl (by decide) w175 dX1_entryAt_31 ?_
            cases z11 with
            | none =>
              have hf := on_n hf
              cases hf
            | some a12 =>
              have hf := on_s hf
              refine W.eq (g2 := F0 m 34 ls [.ref a12]) rfl ?_
              refine lv_iload_n hx hb dX1_entryAt_34 rfl (lv_at hl 1 rfl) ?_
              obtain ⟨z13, e13, hf⟩ := ob hf
              refine r_aald C hw e13 (by decide) rfl dX1_entryAt_35 ?_
              cases z13 with
              | none =>
                have hf := on_n hf
                refine W.eq (g2 := F0 m 36 ls [.null]) rfl ?_
                obtain ⟨rfl, rfl⟩ := sp hf
                exact r_aret C hw rfl rfl (Or.inl ⟨_, rfl⟩) (by omega) (by omega) dX1_entryAt_36
              | some a14 =>
                have hf := on_s hf
                refine W.eq (g2 := F0 m 36 ls [.ref a14]) rfl ?_
                obtain ⟨rfl, rfl⟩ := sp hf
                exact r_aret C hw rfl rfl (Or.inl ⟨_, rfl⟩) (by omega) (by omega) dX1_entryAt_36
          · have hf := ie hf c10
            refine lv_null hx hb dX1_entryAt_28 ?_
            obtain ⟨rfl, rfl⟩ := sp hf
            exact r_aret C hw rfl rfl (Or.inl ⟨_, rfl⟩) (by omega) (by omega) dX1_entryAt_29
theorem kXX1_entryAt : MK yX1_entryAt cX1_entryAt 2 (some (.object "RaftRegistry$Entry")) 1 := ⟨w397, w7, by decide +kernel⟩
theorem mX1_entryAt {D : va_G} {cy : Nat → ClassId} {s0 : Nat} {l : Launch} {x0 : Nat} {x1 : Int32} {h : Hp} {v : Option Nat} {h1 : Hp} (hf : fX1_entryAt x0 x1 h = some (v, h1)) : MT D cy s0 l yX1_entryAt cX1_entryAt 2 (some (.object "RaftRegistry$Entry")) rX1_entryAt [.ref x0, .int x1] h (some (va_rf v)) h1 := by
  refine MT.of (by decide +kernel) (Nat.le_of_ble_eq_true rfl) ?_
  intro p e s m below meth c H locs ls C hn hw hl
  exact bX1_entryAt C hn _ _ _ _ hf _ _ _ _ _ (Nat.le_of_ble_eq_true rfl) (Nat.le_of_ble_eq_true rfl) hw hl
abbrev rX1_entriesBehind : Room := { frames := 1, cells := 1, slots := 4, locals := 32 }
abbrev pX1_entriesBehind_23 (D : va_G) (cy : Nat → ClassId) (s0 : Nat) (p : Program) (l : Launch) (e : Env) (s : State) (m : MethodId) (args : Array Value) (below : List Frame) (meth : Method) (c : Code) (r : Option Nat × Hp) (x0 : Nat) (x1 : Int32) (x2 : Int32) (x3 : Nat) (x4 : Int32) (h : Hp) : Prop := ∀ (H : Heap) (locs : List Loc) (ls : Array Slot) (cells slots : Nat), cells + (0) ≤ 1 → slots + (0) ≤ 4 → WS D cy s0 s h H locs → lv_has ls 5 [(0, .ref x0), (1, .int x1), (2, .int x2), (3, .ref x3), (4, .int x4)] → W p l e rX1_entriesBehind s m args below meth c H locs cells slots (MQ below (QQ D cy s0 (some (va_rf r.1)) r.2) args s 1 4 (fun q => s0 ≤ q)) (F0 m 23 ls [])
abbrev pX1_entriesBehind (D : va_G) (cy : Nat → ClassId) (s0 : Nat) (p : Program) (l : Launch) (e : Env) (s : State) (m : MethodId) (args : Array Value) (below : List Frame) (meth : Method) (c : Code) (r : Option Nat × Hp) (x0 : Nat) (x1 : Int32) (h : Hp) : Prop := ∀ (H : Heap) (locs : List Loc) (ls : Array Slot) (cells slots : Nat), cells + (1) ≤ 1 → slots + (4) ≤ 4 → WS D cy s0 s h H locs → lv_has ls 5 [(0, .ref x0), (1, .int x1)] → W p l e rX1_entriesBehind s m args below meth c H locs cells slots (MQ below (QQ D cy s0 (some (va_rf r.1)) r.2) args s 1 4 (fun q => s0 ≤ q)) (F0 m 0 ls [])
set_option maxRecDepth 100000 in
set_option maxHeartbeats 4000000 in
theorem bX1_entriesBehind_23_body {D : va_G} {cy : Nat → ClassId} {s0 : Nat} {p : Program} {l : Launch} {e : Env} {s : State} {m : MethodId} {args : Array Value} {below : List Frame} {meth : Method} {c : Code} (C : CX D cy s0 p s m args meth c cX1_entriesBehind 5 RX1 (some (.array (.object "RaftRegistry$Entry")))) (hn : meth.name = "entriesBehind") {k23 : Nat → Int32 → Int32 → Nat → Int32 → Hp → Option (Option Nat × Hp)} (hk23 : ∀ (x0 : Nat) (x1 : Int32) (x2 : Int32) (x3 : Nat) (x4 : Int32) (h : Hp) (r : Option Nat × Hp), k23 x0 x1 x2 x3 x4 h = some r → pX1_entriesBehind_23 D cy s0 p l e s m args below meth c r x0 x1 x2 x3 x4 h) : ∀ (x0 : Nat) (x1 : Int32) (x2 : Int32) (x3 : Nat) (x4 : Int32) (h : Hp) (r : Option Nat × Hp), fX1_entriesBehind_23_body k23 x0 x1 x2 x3 x4 h = some r → pX1_entriesBehind_23 D cy s0 p l e s m args below meth c r x0 x1 x2 x3 x4 h := by
  intro x0 x1 x2 x3 x4 h ⟨rv, rh⟩ hf H locs ls cells slots hc hs hw hl
  unfold fX1_entriesBehind_23_body at hf
  have hx := C.1
  have hb := C.2.1
  refine lv_iload hx hb dX1_entriesBehind_23 (lv_at hl 4 rfl) ?_
  refine lv_iload_n hx hb dX1_entriesBehind_25 rfl (lv_at hl 2 rfl) ?_
  refine lv_icmp_ge (tgt := 49) hx hb dX1_entriesBehind_26 (by decide) (fun c1 => ?_) (fun c1 => ?_)
  · have hf := ip hf c1
    refine lv_aload_n hx hb dX1_entriesBehind_49 rfl (lv_at hl 3 rfl) ?_
    obtain ⟨rfl, rfl⟩ := sp hf
    exact r_aret C hw rfl rfl (Or.inr ⟨_, rfl⟩) (by omega) (by omega) dX1_entriesBehind_50
  · have hf := ie hf c1
    refine lv_aload_n hx hb dX1_entriesBehind_29 rfl (lv_at hl 3 rfl) ?_
    refine lv_iload hx hb dX1_entriesBehind_30 (lv_at hl 4 rfl) ?_
    refine lv_aload_n hx hb dX1_entriesBehind_32 rfl (lv_at hl 0 rfl) ?_
    refine lv_iload_n hx hb dX1_entriesBehind_33 rfl (lv_at hl 1 rfl) ?_
    refine lv_iconst (v := (1 : Int32)) hx hb dX1_entriesBehind_34 (by decide) ?_
    refine lv_iadd hx hb dX1_entriesBehind_35 ?_
    refine lv_iload hx hb dX1_entriesBehind_36 (lv_at hl 4 rfl) ?_
    refine lv_iadd hx hb dX1_entriesBehind_38 ?_
    obtain ⟨kb2, hf⟩ := ig hf
    obtain ⟨z2, h2, e2, hf⟩ := ob2 hf
    refine r_callV C hw (mX1_entryAt e2) kXX1_entryAt ck1 rfl kb2 w394 w395 w396 ⟨Nat.le_of_ble_eq_true rfl, Nat.le_of_ble_eq_true rfl⟩ rfl hl.1 (rest := [.int x4, .ref x3]) rfl (Nat.le_of_ble_eq_true rfl) dX1_entriesBehind_39 (mc := 0) (ms := 0) rfl rfl ⟨by show _ + 0 ≤ 1; omega, by show _ + 0 ≤ 4; omega⟩ (fun H locs hw => ?_)
    cases z2 with
    | none =>
      have hf := on_n hf
      refine W.eq (g2 := F0 m 42 ls [.null, .int x4, .ref x3]) rfl ?_
      obtain ⟨h5, e5, hf⟩ := ob hf
      refine r_aastN C hw e5 (by decide) rfl dX1_entriesBehind_42 (fun H locs hw => ?_)
      refine lv_iinc (v := (x4 + (1 : Int32))) (lv' := [(4, .int (x4 + (1 : Int32))), (0, .ref x0), (1, .int x1), (2, .int x2), (3, .ref x3)]) hx hb dX1_entriesBehind_43 hl (k := 4) rfl rfl (by decide) rfl (fun ls hl => ?_)
      refine lv_goto (tgt := 23) hx hb dX1_entriesBehind_46 (by decide) ?_
      exact hk23 _ _ _ _ _ _ _ hf _ _ _ _ _ (by omega) (by omega) hw (lv_sub hl [1, 2, 3, 4, 0] rfl)
    | some a3 =>
      have hf := on_s hf
      refine W.eq (g2 := F0 m 42 ls [.ref a3, .int x4, .ref x3]) rfl ?_
      obtain ⟨h4, e4, hf⟩ := ob hf
      refine r_aast C hw e4 (by decide) ck2 rfl dX1_entriesBehind_42 (fun H locs hw => ?_)
      refine lv_iinc (v := (x4 + (1 : Int32))) (lv' := [(4, .int (x4 + (1 : Int32))), (0, .ref x0), (1, .int x1), (2, .int x2), (3, .ref x3)]) hx hb dX1_entriesBehind_43 hl (k := 4) rfl rfl (by decide) rfl (fun ls hl => ?_)
      refine lv_goto (tgt := 23) hx hb dX1_entriesBehind_46 (by decide) ?_
      exact hk23 _ _ _ _ _ _ _ hf _ _ _ _ _ (by omega) (by omega) hw (lv_sub hl [1, 2, 3, 4, 0] rfl)
set_option maxRecDepth 100000 in
set_option maxHeartbeats 4000000 in
theorem bX1_entriesBehind_23 {D : va_G} {cy : Nat → ClassId} {s0 : Nat} {p : Program} {l : Launch} {e : Env} {s : State} {m : MethodId} {args : Array Value} {below : List Frame} {meth : Method} {c : Code} (C : CX D cy s0 p s m args meth c cX1_entriesBehind 5 RX1 (some (.array (.object "RaftRegistry$Entry")))) (hn : meth.name = "entriesBehind") : ∀ (n : Nat) (x0 : Nat) (x1 : Int32) (x2 : Int32) (x3 : Nat) (x4 : Int32) (h : Hp) (r : Option Nat × Hp), fX1_entriesBehind_23 n x0 x1 x2 x3 x4 h = some r → pX1_entriesBehind_23 D cy s0 p l e s m args below meth c r x0 x1 x2 x3 x4 h := by
  intro n
  induction n with
  | zero => intro x0 x1 x2 x3 x4 h r hf; exact absurd hf (fun q => by cases q)
  | succ n ih => exact bX1_entriesBehind_23_body C hn ih
set_option maxRecDepth 100000 in
set_option maxHeartbeats 4000000 in
theorem bX1_entriesBehind {D : va_G} {cy : Nat → ClassId} {s0 : Nat} {p : Program} {l : Launch} {e : Env} {s : State} {m : MethodId} {args : Array Value} {below : List Frame} {meth : Method} {c : Code} (C : CX D cy s0 p s m args meth c cX1_entriesBehind 5 RX1 (some (.array (.object "RaftRegistry$Entry")))) (hn : meth.name = "entriesBehind") : ∀ (x0 : Nat) (x1 : Int32) (h : Hp) (r : Option Nat × Hp), fX1_entriesBehind x0 x1 h = some r → pX1_entriesBehind D cy s0 p l e s m args below meth c r x0 x1 h := by
  intro x0 x1 h ⟨rv, rh⟩ hf H locs ls cells slots hc hs hw hl
  unfold fX1_entriesBehind at hf
  have hx := C.1
  have hb := C.2.1
  refine lv_iconst (v := (0 : Int32)) hx hb dX1_entriesBehind_0 (by decide) ?_
  refine lv_iconst (v := (4 : Int32)) hx hb dX1_entriesBehind_1 (by decide) ?_
  refine lv_aload_n hx hb dX1_entriesBehind_2 rfl (lv_at hl 0 rfl) ?_
  obtain ⟨z1, e1, hf⟩ := ob hf
  refine r_gI C hw e1 ck1 rfl (by decide) w167 dX1_entriesBehind_3 ?_
  refine lv_iload_n hx hb dX1_entriesBehind_6 rfl (lv_at hl 1 rfl) ?_
  refine lv_isub hx hb dX1_entriesBehind_7 ?_
  refine va_mmin hx hb (by rw [C.2.2.1]; exact hl.1.symm) C.2.2.2.1 (C.2.2.2.2.1 _ w565) (C.2.2.2.2.1 _ w566) (C.2.2.2.2.1 _ w18) (C.2.2.2.2.1 _ w567) (Nat.le_of_ble_eq_true rfl) (Nat.le_of_ble_eq_true rfl) (by show _ ≤ 1; omega) (by show _ ≤ 4; omega) dX1_entriesBehind_8 ?_
  refine W.eq (g2 := F0 m 11 ls [.int (mn (4 : Int32) (z1 - x1)), .int (0 : Int32)]) rfl ?_
  refine va_mmax hx hb (by rw [C.2.2.1]; exact hl.1.symm) C.2.2.2.1 (C.2.2.2.2.1 _ w568) (C.2.2.2.2.1 _ w569) (C.2.2.2.2.1 _ w18) (C.2.2.2.2.1 _ w570) (Nat.le_of_ble_eq_true rfl) (Nat.le_of_ble_eq_true rfl) (by show _ ≤ 1; omega) (by show _ ≤ 4; omega) dX1_entriesBehind_11 ?_
  refine W.eq (g2 := F0 m 14 ls [.int (mx (0 : Int32) (mn (4 : Int32) (z1 - x1)))]) rfl ?_
  refine lv_istore_n (lv' := [(2, .int (mx (0 : Int32) (mn (4 : Int32) (z1 - x1)))), (0, .ref x0), (1, .int x1)]) hx hb dX1_entriesBehind_14 rfl hl (by decide) rfl (fun ls hl => ?_)
  refine lv_iload_n hx hb dX1_entriesBehind_15 rfl (lv_at hl 0 rfl) ?_
  obtain ⟨h2, e2, hf⟩ := ob hf
  refine r_newQ C hw e2 (by decide) rfl w161 C.2.2.2.2.2.2.1.2.1 (by show _ + 1 ≤ 1; omega) (by show _ + 4 ≤ 4; omega) (by decide) dX1_entriesBehind_16 (fun H hw => ?_)
  refine lv_astore_n (lv' := [(3, .ref (hZ h)), (2, .int (mx (0 : Int32) (mn (4 : Int32) (z1 - x1)))), (0, .ref x0), (1, .int x1)]) hx hb dX1_entriesBehind_19 rfl hl (by decide) rfl (fun ls hl => ?_)
  refine lv_iconst (v := (0 : Int32)) hx hb dX1_entriesBehind_20 (by decide) ?_
  refine lv_istore (lv' := [(4, .int (0 : Int32)), (3, .ref (hZ h)), (2, .int (mx (0 : Int32) (mn (4 : Int32) (z1 - x1)))), (0, .ref x0), (1, .int x1)]) hx hb dX1_entriesBehind_21 hl (by decide) rfl (fun ls hl => ?_)
  exact bX1_entriesBehind_23 C hn LF _ _ _ _ _ _ _ hf _ _ _ _ _ (by omega) (by omega) hw (lv_sub hl [3, 4, 2, 1, 0] rfl)
theorem kXX1_entriesBehind : MK yX1_entriesBehind cX1_entriesBehind 5 (some (.array (.object "RaftRegistry$Entry"))) 1 := ⟨w564, w7, by decide +kernel⟩
theorem mX1_entriesBehind {D : va_G} {cy : Nat → ClassId} {s0 : Nat} {l : Launch} {x0 : Nat} {x1 : Int32} {h : Hp} {v : Option Nat} {h1 : Hp} (hf : fX1_entriesBehind x0 x1 h = some (v, h1)) : MT D cy s0 l yX1_entriesBehind cX1_entriesBehind 5 (some (.array (.object "RaftRegistry$Entry"))) rX1_entriesBehind [.ref x0, .int x1] h (some (va_rf v)) h1 := by
  refine MT.of (by decide +kernel) (Nat.le_of_ble_eq_true rfl) ?_
  intro p e s m below meth c H locs ls C hn hw hl
  exact bX1_entriesBehind C hn _ _ _ _ hf _ _ _ _ _ (Nat.le_of_ble_eq_true rfl) (Nat.le_of_ble_eq_true rfl) hw hl
abbrev rX1_init : Room := { frames := 1, cells := 1, slots := 1201, locals := 24 }
abbrev pX1_init (D : va_G) (cy : Nat → ClassId) (s0 : Nat) (p : Program) (l : Launch) (e : Env) (s : State) (m : MethodId) (args : Array Value) (below : List Frame) (meth : Method) (c : Code) (r : Unit × Hp) (x0 : Nat) (x1 : Nat) (h : Hp) : Prop := ∀ (H : Heap) (locs : List Loc) (ls : Array Slot) (cells slots : Nat), cells + (1) ≤ 1 → slots + (1201) ≤ 1201 → WS D cy s0 s h H locs → lv_has ls 2 [(0, .ref x0), (1, .ref x1)] → W p l e rX1_init s m args below meth c H locs cells slots (MQ below (QQ D cy s0 none r.2) args s 1 1201 (fun q => s0 ≤ q)) (F0 m 0 ls [])
set_option maxRecDepth 100000 in
set_option maxHeartbeats 4000000 in
theorem bX1_init {D : va_G} {cy : Nat → ClassId} {s0 : Nat} {p : Program} {l : Launch} {e : Env} {s : State} {m : MethodId} {args : Array Value} {below : List Frame} {meth : Method} {c : Code} (C : CX D cy s0 p s m args meth c cX1_init 2 RX1 none) (hn : meth.name = "<init>") : ∀ (x0 : Nat) (x1 : Nat) (h : Hp) (r : Unit × Hp), fX1_init x0 x1 h = some r → pX1_init D cy s0 p l e s m args below meth c r x0 x1 h := by
  intro x0 x1 h ⟨rv, rh⟩ hf H locs ls cells slots hc hs hw hl
  unfold fX1_init at hf
  have hx := C.1
  have hb := C.2.1
  refine lv_aload_n hx hb dX1_init_0 rfl (lv_at hl 0 rfl) ?_
  refine W.objInit hx hb C.2.2.2.1 (C.2.2.2.2.1 _ w160) (C.2.2.2.2.1 _ w28) (C.2.2.2.2.1 _ w29) rfl (by rw [C.2.2.1]; exact hl.1) rfl dX1_init_1 (Nat.le_of_ble_eq_true rfl) (Nat.le_of_ble_eq_true rfl) ?_
  refine W.eq (g2 := F0 m 4 ls []) rfl ?_
  refine lv_aload_n hx hb dX1_init_4 rfl (lv_at hl 0 rfl) ?_
  refine lv_iconst (v := (-1 : Int32)) hx hb dX1_init_5 (by decide) ?_
  obtain ⟨h1, e1, hf⟩ := ob hf
  refine r_pI C hw e1 ck1 rfl (by decide) rfl w164 (Or.inl rfl) dX1_init_6 (fun H locs hw => ?_)
  refine lv_aload_n hx hb dX1_init_9 rfl (lv_at hl 0 rfl) ?_
  refine lv_iconst (v := (-1 : Int32)) hx hb dX1_init_10 (by decide) ?_
  obtain ⟨h2, e2, hf⟩ := ob hf
  refine r_pI C hw e2 ck1 rfl (by decide) rfl w172 (Or.inl rfl) dX1_init_11 (fun H locs hw => ?_)
  refine lv_aload_n hx hb dX1_init_14 rfl (lv_at hl 0 rfl) ?_
  refine lv_sipush (v := (1201 : Int32)) hx hb dX1_init_15 (by decide) ?_
  obtain ⟨h3, e3, hf⟩ := ob hf
  refine r_newQ C hw e3 (by decide) rfl w161 C.2.2.2.2.2.2.1.2.1 (by show _ + 1 ≤ 1; omega) (by show _ + 1201 ≤ 1201; omega) (by decide) dX1_init_18 (fun H hw => ?_)
  obtain ⟨h4, e4, hf⟩ := ob hf
  refine r_pR C hw e4 rfl ck1 rfl (by decide) rfl rfl w175 (Or.inr ⟨rfl, hn, rfl⟩) dX1_init_21 (fun H locs hw => ?_)
  refine lv_aload_n hx hb dX1_init_24 rfl (lv_at hl 0 rfl) ?_
  refine lv_aload_n hx hb dX1_init_25 rfl (lv_at hl 1 rfl) ?_
  obtain ⟨h5, e5, hf⟩ := ob hf
  refine r_pR C hw e5 rfl ck1 rfl (by decide) rfl rfl w169 (Or.inl rfl) dX1_init_26 (fun H locs hw => ?_)
  obtain ⟨rfl, rfl⟩ := sp hf
  exact r_vret C hw rfl (by omega) (by omega) dX1_init_29
theorem kXX1_init : MK yX1_init cX1_init 2 none 1 := ⟨w159, w7, by decide +kernel⟩
theorem mX1_init {D : va_G} {cy : Nat → ClassId} {s0 : Nat} {l : Launch} {x0 : Nat} {x1 : Nat} {h : Hp} {v : Unit} {h1 : Hp} (hf : fX1_init x0 x1 h = some (v, h1)) : MT D cy s0 l yX1_init cX1_init 2 none rX1_init [.ref x0, .ref x1] h none h1 := by
  refine MT.of (by decide +kernel) (Nat.le_of_ble_eq_true rfl) ?_
  intro p e s m below meth c H locs ls C hn hw hl
  exact bX1_init C hn _ _ _ _ hf _ _ _ _ _ (Nat.le_of_ble_eq_true rfl) (Nat.le_of_ble_eq_true rfl) hw hl
abbrev rX1_powerFails : Room := { frames := 0, cells := 0, slots := 0, locals := 0 }
abbrev pX1_powerFails (D : va_G) (cy : Nat → ClassId) (s0 : Nat) (p : Program) (l : Launch) (e : Env) (s : State) (m : MethodId) (args : Array Value) (below : List Frame) (meth : Method) (c : Code) (r : Int32 × Hp) (x0 : Nat) (h : Hp) : Prop := ∀ (H : Heap) (locs : List Loc) (ls : Array Slot) (cells slots : Nat), cells + (0) ≤ 0 → slots + (0) ≤ 0 → WS D cy s0 s h H locs → lv_has ls 1 [(0, .ref x0)] → W p l e rX1_powerFails s m args below meth c H locs cells slots (MQ below (QQ D cy s0 (some (.int r.1)) r.2) args s 0 0 (fun q => s0 ≤ q)) (F0 m 0 ls [])
set_option maxRecDepth 100000 in
set_option maxHeartbeats 4000000 in
theorem bX1_powerFails {D : va_G} {cy : Nat → ClassId} {s0 : Nat} {p : Program} {l : Launch} {e : Env} {s : State} {m : MethodId} {args : Array Value} {below : List Frame} {meth : Method} {c : Code} (C : CX D cy s0 p s m args meth c cX1_powerFails 1 RX1 (some .boolean)) (hn : meth.name = "powerFails") : ∀ (x0 : Nat) (h : Hp) (r : Int32 × Hp), fX1_powerFails x0 h = some r → pX1_powerFails D cy s0 p l e s m args below meth c r x0 h := by
  intro x0 h ⟨rv, rh⟩ hf H locs ls cells slots hc hs hw hl
  unfold fX1_powerFails at hf
  have hx := C.1
  have hb := C.2.1
  refine lv_aload_n hx hb dX1_powerFails_0 rfl (lv_at hl 0 rfl) ?_
  obtain ⟨z1, e1, hf⟩ := ob hf
  refine r_gI C hw e1 ck1 rfl (by decide) w172 dX1_powerFails_1 ?_
  refine lv_if_ne (tgt := 9) hx hb dX1_powerFails_4 (by decide) (fun c2 => ?_) (fun c2 => ?_)
  · have hf := ie hf c2
    refine lv_aload_n hx hb dX1_powerFails_9 rfl (lv_at hl 0 rfl) ?_
    obtain ⟨z3, e3, hf⟩ := ob hf
    refine r_gI C hw e3 ck1 rfl (by decide) w172 dX1_powerFails_10 ?_
    refine lv_if_le (tgt := 26) hx hb dX1_powerFails_13 (by decide) (fun c4 => ?_) (fun c4 => ?_)
    · have hf := ip hf c4
      refine lv_iconst (v := (0 : Int32)) hx hb dX1_powerFails_26 (by decide) ?_
      obtain ⟨rfl, rfl⟩ := sp hf
      exact r_iret C hw rfl (nz (Or.inl rfl)) (by omega) (by omega) dX1_powerFails_27
    · have hf := ie hf c4
      refine lv_aload_n hx hb dX1_powerFails_16 rfl (lv_at hl 0 rfl) ?_
      refine lv_dup hx hb dX1_powerFails_17 rfl ?_
      obtain ⟨z5, e5, hf⟩ := ob hf
      refine r_gI C hw e5 ck1 rfl (by decide) w172 dX1_powerFails_18 ?_
      refine lv_iconst (v := (1 : Int32)) hx hb dX1_powerFails_21 (by decide) ?_
      refine lv_isub hx hb dX1_powerFails_22 ?_
      obtain ⟨h6, e6, hf⟩ := ob hf
      refine r_pI C hw e6 ck1 rfl (by decide) rfl w172 (Or.inl rfl) dX1_powerFails_23 (fun H locs hw => ?_)
      refine lv_iconst (v := (0 : Int32)) hx hb dX1_powerFails_26 (by decide) ?_
      obtain ⟨rfl, rfl⟩ := sp hf
      exact r_iret C hw rfl (nz (Or.inl rfl)) (by omega) (by omega) dX1_powerFails_27
  · have hf := ip hf c2
    refine lv_iconst (v := (1 : Int32)) hx hb dX1_powerFails_7 (by decide) ?_
    obtain ⟨rfl, rfl⟩ := sp hf
    exact r_iret C hw rfl (nz (Or.inr rfl)) (by omega) (by omega) dX1_powerFails_8
theorem kXX1_powerFails : MK yX1_powerFails cX1_powerFails 1 (some .boolean) 0 := ⟨w381, w7, by decide +kernel⟩
theorem mX1_powerFails {D : va_G} {cy : Nat → ClassId} {s0 : Nat} {l : Launch} {x0 : Nat} {h : Hp} {v : Int32} {h1 : Hp} (hf : fX1_powerFails x0 h = some (v, h1)) : MT D cy s0 l yX1_powerFails cX1_powerFails 1 (some .boolean) rX1_powerFails [.ref x0] h (some (.int v)) h1 := by
  refine MT.of (by decide +kernel) (Nat.le_of_ble_eq_true rfl) ?_
  intro p e s m below meth c H locs ls C hn hw hl
  exact bX1_powerFails C hn _ _ _ hf _ _ _ _ _ (Nat.le_of_ble_eq_true rfl) (Nat.le_of_ble_eq_true rfl) hw hl
abbrev rX1_recordEntry : Room := { frames := 1, cells := 0, slots := 0, locals := 20 }
abbrev pX1_recordEntry (D : va_G) (cy : Nat → ClassId) (s0 : Nat) (p : Program) (l : Launch) (e : Env) (s : State) (m : MethodId) (args : Array Value) (below : List Frame) (meth : Method) (c : Code) (r : Int32 × Hp) (x0 : Nat) (x1 : Int32) (x2 : Nat) (h : Hp) : Prop := ∀ (H : Heap) (locs : List Loc) (ls : Array Slot) (cells slots : Nat), cells + (0) ≤ 0 → slots + (0) ≤ 0 → WS D cy s0 s h H locs → lv_has ls 3 [(0, .ref x0), (1, .int x1), (2, .ref x2)] → W p l e rX1_recordEntry s m args below meth c H locs cells slots (MQ below (QQ D cy s0 (some (.int r.1)) r.2) args s 0 0 (fun q => s0 ≤ q)) (F0 m 0 ls [])
set_option maxRecDepth 100000 in
set_option maxHeartbeats 4000000 in
theorem bX1_recordEntry {D : va_G} {cy : Nat → ClassId} {s0 : Nat} {p : Program} {l : Launch} {e : Env} {s : State} {m : MethodId} {args : Array Value} {below : List Frame} {meth : Method} {c : Code} (C : CX D cy s0 p s m args meth c cX1_recordEntry 3 RX1 (some .boolean)) (hn : meth.name = "recordEntry") : ∀ (x0 : Nat) (x1 : Int32) (x2 : Nat) (h : Hp) (r : Int32 × Hp), fX1_recordEntry x0 x1 x2 h = some r → pX1_recordEntry D cy s0 p l e s m args below meth c r x0 x1 x2 h := by
  intro x0 x1 x2 h ⟨rv, rh⟩ hf H locs ls cells slots hc hs hw hl
  unfold fX1_recordEntry at hf
  have hx := C.1
  have hb := C.2.1
  refine lv_iload_n hx hb dX1_recordEntry_0 rfl (lv_at hl 1 rfl) ?_
  refine lv_iconst (v := (1 : Int32)) hx hb dX1_recordEntry_1 (by decide) ?_
  refine lv_icmp_lt (tgt := 21) hx hb dX1_recordEntry_2 (by decide) (fun c1 => ?_) (fun c1 => ?_)
  · have hf := ip hf c1
    refine lv_iconst (v := (0 : Int32)) hx hb dX1_recordEntry_21 (by decide) ?_
    obtain ⟨rfl, rfl⟩ := sp hf
    exact r_iret C hw rfl (nz (Or.inl rfl)) (by omega) (by omega) dX1_recordEntry_22
  · have hf := ie hf c1
    refine lv_iload_n hx hb dX1_recordEntry_5 rfl (lv_at hl 1 rfl) ?_
    refine lv_aload_n hx hb dX1_recordEntry_6 rfl (lv_at hl 0 rfl) ?_
    obtain ⟨z2, e2, hf⟩ := ob hf
    refine r_gR C hw e2 ck1 rfl (by decide) w175 dX1_recordEntry_7 ?_
    cases z2 with
    | none =>
      have hf := on_n hf
      cases hf
    | some a3 =>
      have hf := on_s hf
      refine W.eq (g2 := F0 m 10 ls [.ref a3, .int x1]) rfl ?_
      obtain ⟨z4, e4, hf⟩ := ob hf
      refine r_alen C hw e4 (by decide) rfl dX1_recordEntry_10 ?_
      refine lv_icmp_ge (tgt := 21) hx hb dX1_recordEntry_11 (by decide) (fun c5 => ?_) (fun c5 => ?_)
      · have hf := ip hf c5
        refine lv_iconst (v := (0 : Int32)) hx hb dX1_recordEntry_21 (by decide) ?_
        obtain ⟨rfl, rfl⟩ := sp hf
        exact r_iret C hw rfl (nz (Or.inl rfl)) (by omega) (by omega) dX1_recordEntry_22
      · have hf := ie hf c5
        refine lv_aload_n hx hb dX1_recordEntry_14 rfl (lv_at hl 0 rfl) ?_
        obtain ⟨kb6, hf⟩ := ig hf
        obtain ⟨z6, h6, e6, hf⟩ := ob2 hf
        refine r_callV C hw (mX1_powerFails e6) kXX1_powerFails ck1 rfl kb6 w378 w380 v2 ⟨Nat.le_of_ble_eq_true rfl, Nat.le_of_ble_eq_true rfl⟩ rfl hl.1 (rest := []) rfl (Nat.le_of_ble_eq_true rfl) dX1_recordEntry_15 (mc := 0) (ms := 0) rfl rfl ⟨by show _ + 0 ≤ 0; omega, by show _ + 0 ≤ 0; omega⟩ (fun H locs hw => ?_)
        refine W.eq (g2 := F0 m 18 ls [.int z6]) rfl ?_
        refine lv_if_eq (tgt := 23) hx hb dX1_recordEntry_18 (by decide) (fun c7 => ?_) (fun c7 => ?_)
        · have hf := ip hf c7
          refine lv_aload_n hx hb dX1_recordEntry_23 rfl (lv_at hl 0 rfl) ?_
          obtain ⟨z8, e8, hf⟩ := ob hf
          refine r_gR C hw e8 ck1 rfl (by decide) w175 dX1_recordEntry_24 ?_
          cases z8 with
          | none =>
            have hf := on_n hf
            cases hf
          | some a9 =>
            have hf := on_s hf
            refine W.eq (g2 := F0 m 27 ls [.ref a9]) rfl ?_
            refine lv_iload_n hx hb dX1_recordEntry_27 rfl (lv_at hl 1 rfl) ?_
            refine lv_aload_n hx hb dX1_recordEntry_28 rfl (lv_at hl 2 rfl) ?_
            obtain ⟨h10, e10, hf⟩ := ob hf
            refine r_aast C hw e10 (by decide) ck2 rfl dX1_recordEntry_29 (fun H locs hw => ?_)
            refine lv_aload_n hx hb dX1_recordEntry_30 rfl (lv_at hl 0 rfl) ?_
            refine lv_iload_n hx hb dX1_recordEntry_31 rfl (lv_at hl 1 rfl) ?_
            obtain ⟨h11, e11, hf⟩ := ob hf
            refine r_pI C hw e11 ck1 rfl (by decide) rfl w167 (Or.inl rfl) dX1_recordEntry_32 (fun H locs hw => ?_)
            refine lv_iconst (v := (1 : Int32)) hx hb dX1_recordEntry_35 (by decide) ?_
            obtain ⟨rfl, rfl⟩ := sp hf
            exact r_iret C hw rfl (nz (Or.inr rfl)) (by omega) (by omega) dX1_recordEntry_36
        · have hf := ie hf c7
          refine lv_iconst (v := (0 : Int32)) hx hb dX1_recordEntry_21 (by decide) ?_
          obtain ⟨rfl, rfl⟩ := sp hf
          exact r_iret C hw rfl (nz (Or.inl rfl)) (by omega) (by omega) dX1_recordEntry_22
theorem kXX1_recordEntry : MK yX1_recordEntry cX1_recordEntry 3 (some .boolean) 2 := ⟨w552, w7, by decide +kernel⟩
theorem mX1_recordEntry {D : va_G} {cy : Nat → ClassId} {s0 : Nat} {l : Launch} {x0 : Nat} {x1 : Int32} {x2 : Nat} {h : Hp} {v : Int32} {h1 : Hp} (hf : fX1_recordEntry x0 x1 x2 h = some (v, h1)) : MT D cy s0 l yX1_recordEntry cX1_recordEntry 3 (some .boolean) rX1_recordEntry [.ref x0, .int x1, .ref x2] h (some (.int v)) h1 := by
  refine MT.of (by decide +kernel) (Nat.le_of_ble_eq_true rfl) ?_
  intro p e s m below meth c H locs ls C hn hw hl
  exact bX1_recordEntry C hn _ _ _ _ _ hf _ _ _ _ _ (Nat.le_of_ble_eq_true rfl) (Nat.le_of_ble_eq_true rfl) hw hl
