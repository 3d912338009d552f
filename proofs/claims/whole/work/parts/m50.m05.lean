abbrev rX10_removed : Room := { frames := 2, cells := 0, slots := 0, locals := 44 }
abbrev pX10_removed_64 (D : va_G) (cy : Nat → ClassId) (s0 : Nat) (p : Program) (l : Launch) (e : Env) (s : State) (m : MethodId) (args : Array Value) (below : List Frame) (meth : Method) (c : Code) (r : Int32 × Hp) (x0 : Nat) (x2 : Int32) (x3 : Int32) (x4 : Int32) (x5 : Int32) (h : Hp) : Prop := ∀ (H : Heap) (locs : List Loc) (ls : Array Slot) (cells slots : Nat), cells + (0) ≤ 0 → slots + (0) ≤ 0 → WS D cy s0 s h H locs → lv_has ls 6 [(0, .ref x0), (2, .int x2), (3, .int x3), (4, .int x4), (5, .int x5)] → W p l e rX10_removed s m args below meth c H locs cells slots (MQ below (QQ D cy s0 (some (.int r.1)) r.2) args s 0 0 (fun q => s0 ≤ q)) (F0 m 64 ls [])
abbrev pX10_removed_55 (D : va_G) (cy : Nat → ClassId) (s0 : Nat) (p : Program) (l : Launch) (e : Env) (s : State) (m : MethodId) (args : Array Value) (below : List Frame) (meth : Method) (c : Code) (r : Int32 × Hp) (x0 : Nat) (x2 : Int32) (x3 : Int32) (x4 : Int32) (x5 : Int32) (h : Hp) : Prop := ∀ (H : Heap) (locs : List Loc) (ls : Array Slot) (cells slots : Nat), cells + (0) ≤ 0 → slots + (0) ≤ 0 → WS D cy s0 s h H locs → lv_has ls 6 [(0, .ref x0), (2, .int x2), (3, .int x3), (4, .int x4), (5, .int x5)] → W p l e rX10_removed s m args below meth c H locs cells slots (MQ below (QQ D cy s0 (some (.int r.1)) r.2) args s 0 0 (fun q => s0 ≤ q)) (F0 m 55 ls [])
abbrev pX10_removed_40 (D : va_G) (cy : Nat → ClassId) (s0 : Nat) (p : Program) (l : Launch) (e : Env) (s : State) (m : MethodId) (args : Array Value) (below : List Frame) (meth : Method) (c : Code) (r : Int32 × Hp) (x0 : Nat) (x2 : Int32) (x3 : Int32) (x4 : Int32) (x5 : Int32) (h : Hp) : Prop := ∀ (H : Heap) (locs : List Loc) (ls : Array Slot) (cells slots : Nat), cells + (0) ≤ 0 → slots + (0) ≤ 0 → WS D cy s0 s h H locs → lv_has ls 6 [(0, .ref x0), (2, .int x2), (3, .int x3), (4, .int x4), (5, .int x5)] → W p l e rX10_removed s m args below meth c H locs cells slots (MQ below (QQ D cy s0 (some (.int r.1)) r.2) args s 0 0 (fun q => s0 ≤ q)) (F0 m 40 ls [])
abbrev pX10_removed_6 (D : va_G) (cy : Nat → ClassId) (s0 : Nat) (p : Program) (l : Launch) (e : Env) (s : State) (m : MethodId) (args : Array Value) (below : List Frame) (meth : Method) (c : Code) (r : Int32 × Hp) (x0 : Nat) (x2 : Int32) (x3 : Int32) (x4 : Int32) (x5 : Int32) (h : Hp) : Prop := ∀ (H : Heap) (locs : List Loc) (ls : Array Slot) (cells slots : Nat), cells + (0) ≤ 0 → slots + (0) ≤ 0 → WS D cy s0 s h H locs → lv_has ls 6 [(0, .ref x0), (2, .int x2), (3, .int x3), (4, .int x4), (5, .int x5)] → W p l e rX10_removed s m args below meth c H locs cells slots (MQ below (QQ D cy s0 (some (.int r.1)) r.2) args s 0 0 (fun q => s0 ≤ q)) (F0 m 6 ls [])
abbrev pX10_removed (D : va_G) (cy : Nat → ClassId) (s0 : Nat) (p : Program) (l : Launch) (e : Env) (s : State) (m : MethodId) (args : Array Value) (below : List Frame) (meth : Method) (c : Code) (r : Int32 × Hp) (x0 : Nat) (x1 : Int32) (x2 : Int32) (x3 : Int32) (h : Hp) : Prop := ∀ (H : Heap) (locs : List Loc) (ls : Array Slot) (cells slots : Nat), cells + (0) ≤ 0 → slots + (0) ≤ 0 → WS D cy s0 s h H locs → lv_has ls 6 [(0, .ref x0), (1, .int x1), (2, .int x2), (3, .int x3)] → W p l e rX10_removed s m args below meth c H locs cells slots (MQ below (QQ D cy s0 (some (.int r.1)) r.2) args s 0 0 (fun q => s0 ≤ q)) (F0 m 0 ls [])
set_option maxRecDepth 100000 in
set_option maxHeartbeats 4000000 in
theorem bX10_removed_64 {D : va_G} {cy : Nat → ClassId} {s0 : Nat} {p : Program} {l : Launch} {e : Env} {s : State} {m : MethodId} {args : Array Value} {below : List Frame} {meth : Method} {c : Code} (C : CX D cy s0 p s m args meth c cX10_removed 6 RX10 (some .int)) (hn : meth.name = "removed") {k6 : Nat → Int32 → Int32 → Int32 → Int32 → Hp → Option (Int32 × Hp)} (hk6 : ∀ (x0 : Nat) (x2 : Int32) (x3 : Int32) (x4 : Int32) (x5 : Int32) (h : Hp) (r : Int32 × Hp), k6 x0 x2 x3 x4 x5 h = some r → pX10_removed_6 D cy s0 p l e s m args below meth c r x0 x2 x3 x4 x5 h) : ∀ (x0 : Nat) (x2 : Int32) (x3 : Int32) (x4 : Int32) (x5 : Int32) (h : Hp) (r : Int32 × Hp), fX10_removed_64 k6 x0 x2 x3 x4 x5 h = some r → pX10_removed_64 D cy s0 p l e s m args below meth c r x0 x2 x3 x4 x5 h := by
  intro x0 x2 x3 x4 x5 h ⟨rv, rh⟩ hf H locs ls cells slots hc hs hw hl
  unfold fX10_removed_64 at hf
  have hx := C.1
  have hb := C.2.1
  refine lv_iinc (v := (x5 + (1 : Int32))) (lv' := [(5, .int (x5 + (1 : Int32))), (0, .ref x0), (2, .int x2), (3, .int x3), (4, .int x4)]) hx hb dX10_removed_64 hl (k := 4) rfl rfl (by decide) rfl (fun ls hl => ?_)
  refine lv_goto (tgt := 6) hx hb dX10_removed_67 (by decide) ?_
  exact hk6 _ _ _ _ _ _ _ hf _ _ _ _ _ (by omega) (by omega) hw (lv_sub hl [1, 2, 3, 4, 0] rfl)
set_option maxRecDepth 100000 in
set_option maxHeartbeats 4000000 in
theorem bX10_removed_55 {D : va_G} {cy : Nat → ClassId} {s0 : Nat} {p : Program} {l : Launch} {e : Env} {s : State} {m : MethodId} {args : Array Value} {below : List Frame} {meth : Method} {c : Code} (C : CX D cy s0 p s m args meth c cX10_removed 6 RX10 (some .int)) (hn : meth.name = "removed") {k6 : Nat → Int32 → Int32 → Int32 → Int32 → Hp → Option (Int32 × Hp)} (hk6 : ∀ (x0 : Nat) (x2 : Int32) (x3 : Int32) (x4 : Int32) (x5 : Int32) (h : Hp) (r : Int32 × Hp), k6 x0 x2 x3 x4 x5 h = some r → pX10_removed_6 D cy s0 p l e s m args below meth c r x0 x2 x3 x4 x5 h) : ∀ (x0 : Nat) (x2 : Int32) (x3 : Int32) (x4 : Int32) (x5 : Int32) (h : Hp) (r : Int32 × Hp), fX10_removed_55 k6 x0 x2 x3 x4 x5 h = some r → pX10_removed_55 D cy s0 p l e s m args below meth c r x0 x2 x3 x4 x5 h := by
  intro x0 x2 x3 x4 x5 h ⟨rv, rh⟩ hf H locs ls cells slots hc hs hw hl
  unfold fX10_removed_55 at hf
  have hx := C.1
  have hb := C.2.1
  refine lv_aload_n hx hb dX10_removed_55 rfl (lv_at hl 0 rfl) ?_
  refine lv_iload hx hb dX10_removed_56 (lv_at hl 4 rfl) ?_
  obtain ⟨kb1, hf⟩ := ig hf
  obtain ⟨z1, h1, e1, hf⟩ := ob2 hf
  refine r_callV C hw (mX10_gone e1) kXX10_gone ck10 rfl kb1 w1265 w1267 v58 ⟨Nat.le_of_ble_eq_true rfl, Nat.le_of_ble_eq_true rfl⟩ rfl hl.1 (rest := []) rfl (Nat.le_of_ble_eq_true rfl) dX10_removed_58 (mc := 0) (ms := 0) rfl rfl ⟨by show _ + 0 ≤ 0; omega, by show _ + 0 ≤ 0; omega⟩ (fun H locs hw => ?_)
  refine W.eq (g2 := F0 m 61 ls []) rfl ?_
  refine lv_iinc (v := (x4 + (1 : Int32))) (lv' := [(4, .int (x4 + (1 : Int32))), (0, .ref x0), (2, .int x2), (3, .int x3), (5, .int x5)]) hx hb dX10_removed_61 hl (k := 3) rfl rfl (by decide) rfl (fun ls hl => ?_)
  exact bX10_removed_64 C hn hk6 _ _ _ _ _ _ _ hf _ _ _ _ _ (by omega) (by omega) hw (lv_sub hl [1, 2, 3, 0, 4] rfl)
set_option maxRecDepth 100000 in
set_option maxHeartbeats 4000000 in
theorem bX10_removed_40 {D : va_G} {cy : Nat → ClassId} {s0 : Nat} {p : Program} {l : Launch} {e : Env} {s : State} {m : MethodId} {args : Array Value} {below : List Frame} {meth : Method} {c : Code} (C : CX D cy s0 p s m args meth c cX10_removed 6 RX10 (some .int)) (hn : meth.name = "removed") {k6 : Nat → Int32 → Int32 → Int32 → Int32 → Hp → Option (Int32 × Hp)} (hk6 : ∀ (x0 : Nat) (x2 : Int32) (x3 : Int32) (x4 : Int32) (x5 : Int32) (h : Hp) (r : Int32 × Hp), k6 x0 x2 x3 x4 x5 h = some r → pX10_removed_6 D cy s0 p l e s m args below meth c r x0 x2 x3 x4 x5 h) : ∀ (x0 : Nat) (x2 : Int32) (x3 : Int32) (x4 : Int32) (x5 : Int32) (h : Hp) (r : Int32 × Hp), fX10_removed_40 k6 x0 x2 x3 x4 x5 h = some r → pX10_removed_40 D cy s0 p l e s m args below meth c r x0 x2 x3 x4 x5 h := by
  intro x0 x2 x3 x4 x5 h ⟨rv, rh⟩ hf H locs ls cells slots hc hs hw hl
  unfold fX10_removed_40 at hf
  have hx := C.1
  have hb := C.2.1
  refine lv_iload hx hb dX10_removed_40 (lv_at hl 3 rfl) ?_
  refine lv_if_ne (tgt := 55) hx hb dX10_removed_42 (by decide) (fun c1 => ?_) (fun c1 => ?_)
  · have hf := ie hf c1
    exact bX10_removed_55 C hn hk6 _ _ _ _ _ _ _ hf _ _ _ _ _ (by omega) (by omega) hw (lv_sub hl [0, 1, 2, 3, 4] rfl)
  · have hf := ip hf c1
    refine lv_aload_n hx hb dX10_removed_45 rfl (lv_at hl 0 rfl) ?_
    refine lv_dup hx hb dX10_removed_46 rfl ?_
    obtain ⟨z2, e2, hf⟩ := ob hf
    refine r_gI C hw e2 ck10 rfl (by decide) w1003 dX10_removed_47 ?_
    refine lv_iconst (v := (1 : Int32)) hx hb dX10_removed_50 (by decide) ?_
    refine lv_iadd hx hb dX10_removed_51 ?_
    obtain ⟨h3, e3, hf⟩ := ob hf
    refine r_pI C hw e3 ck10 rfl (by decide) rfl w1003 (Or.inl rfl) dX10_removed_52 (fun H locs hw => ?_)
    exact bX10_removed_55 C hn hk6 _ _ _ _ _ _ _ hf _ _ _ _ _ (by omega) (by omega) hw (lv_sub hl [0, 1, 2, 3, 4] rfl)
set_option maxRecDepth 100000 in
set_option maxHeartbeats 4000000 in
theorem bX10_removed_6_body {D : va_G} {cy : Nat → ClassId} {s0 : Nat} {p : Program} {l : Launch} {e : Env} {s : State} {m : MethodId} {args : Array Value} {below : List Frame} {meth : Method} {c : Code} (C : CX D cy s0 p s m args meth c cX10_removed 6 RX10 (some .int)) (hn : meth.name = "removed") {k6 : Nat → Int32 → Int32 → Int32 → Int32 → Hp → Option (Int32 × Hp)} (hk6 : ∀ (x0 : Nat) (x2 : Int32) (x3 : Int32) (x4 : Int32) (x5 : Int32) (h : Hp) (r : Int32 × Hp), k6 x0 x2 x3 x4 x5 h = some r → pX10_removed_6 D cy s0 p l e s m args below meth c r x0 x2 x3 x4 x5 h) : ∀ (x0 : Nat) (x2 : Int32) (x3 : Int32) (x4 : Int32) (x5 : Int32) (h : Hp) (r : Int32 × Hp), fX10_removed_6_body k6 x0 x2 x3 x4 x5 h = some r → pX10_removed_6 D cy s0 p l e s m args below meth c r x0 x2 x3 x4 x5 h := by
  intro x0 x2 x3 x4 x5 h ⟨rv, rh⟩ hf H locs ls cells slots hc hs hw hl
  unfold fX10_removed_6_body at hf
  have hx := C.1
  have hb := C.2.1
  refine lv_iload hx hb dX10_removed_6 (lv_at hl 4 rfl) ?_
  refine lv_iload_n hx hb dX10_removed_8 rfl (lv_at hl 1 rfl) ?_
  refine lv_icmp_gt (tgt := 70) hx hb dX10_removed_9 (by decide) (fun c1 => ?_) (fun c1 => ?_)
  · have hf := ip hf c1
    refine lv_iload hx hb dX10_removed_70 (lv_at hl 3 rfl) ?_
    obtain ⟨rfl, rfl⟩ := sp hf
    exact r_iret C hw rfl rfl (by omega) (by omega) dX10_removed_72
  · have hf := ie hf c1
    refine lv_aload_n hx hb dX10_removed_12 rfl (lv_at hl 0 rfl) ?_
    obtain ⟨z2, e2, hf⟩ := ob hf
    refine r_gR C hw e2 ck10 rfl (by decide) w996 dX10_removed_13 ?_
    cases z2 with
    | none =>
      have hf := on_n hf
      cases hf
    | some a3 =>
      have hf := on_s hf
      refine W.eq (g2 := F0 m 16 ls [.ref a3]) rfl ?_
      refine lv_iload hx hb dX10_removed_16 (lv_at hl 4 rfl) ?_
      obtain ⟨z4, e4, hf⟩ := ob hf
      refine r_iald C hw e4 dX10_removed_18 ?_
      refine lv_if_eq (tgt := 64) hx hb dX10_removed_19 (by decide) (fun c5 => ?_) (fun c5 => ?_)
      · have hf := ip hf c5
        exact bX10_removed_64 C hn hk6 _ _ _ _ _ _ _ hf _ _ _ _ _ (by omega) (by omega) hw (lv_sub hl [0, 1, 2, 3, 4] rfl)
      · have hf := ie hf c5
        refine lv_iload_n hx hb dX10_removed_22 rfl (lv_at hl 2 rfl) ?_
        refine lv_if_lt (tgt := 40) hx hb dX10_removed_23 (by decide) (fun c6 => ?_) (fun c6 => ?_)
        · have hf := ip hf c6
          exact bX10_removed_40 C hn hk6 _ _ _ _ _ _ _ hf _ _ _ _ _ (by omega) (by omega) hw (lv_sub hl [0, 1, 2, 3, 4] rfl)
        · have hf := ie hf c6
          refine lv_aload_n hx hb dX10_removed_26 rfl (lv_at hl 0 rfl) ?_
          obtain ⟨z7, e7, hf⟩ := ob hf
          refine r_gR C hw e7 ck10 rfl (by decide) w1000 dX10_removed_27 ?_
          cases z7 with
          | none =>
            have hf := on_n hf
            cases hf
          | some a8 =>
            have hf := on_s hf
            refine W.eq (g2 := F0 m 30 ls [.ref a8]) rfl ?_
            refine lv_iload hx hb dX10_removed_30 (lv_at hl 4 rfl) ?_
            obtain ⟨z9, e9, hf⟩ := ob hf
            refine r_iald C hw e9 dX10_removed_32 ?_
            refine lv_iload_n hx hb dX10_removed_33 rfl (lv_at hl 2 rfl) ?_
            refine lv_icmp_eq (tgt := 40) hx hb dX10_removed_34 (by decide) (fun c10 => ?_) (fun c10 => ?_)
            · have hf := ip hf c10
              exact bX10_removed_40 C hn hk6 _ _ _ _ _ _ _ hf _ _ _ _ _ (by omega) (by omega) hw (lv_sub hl [0, 1, 2, 3, 4] rfl)
            · have hf := ie hf c10
              refine lv_goto (tgt := 64) hx hb dX10_removed_37 (by decide) ?_
              exact bX10_removed_64 C hn hk6 _ _ _ _ _ _ _ hf _ _ _ _ _ (by omega) (by omega) hw (lv_sub hl [0, 1, 2, 3, 4] rfl)
set_option maxRecDepth 100000 in
set_option maxHeartbeats 4000000 in
theorem bX10_removed_6 {D : va_G} {cy : Nat → ClassId} {s0 : Nat} {p : Program} {l : Launch} {e : Env} {s : State} {m : MethodId} {args : Array Value} {below : List Frame} {meth : Method} {c : Code} (C : CX D cy s0 p s m args meth c cX10_removed 6 RX10 (some .int)) (hn : meth.name = "removed") : ∀ (n : Nat) (x0 : Nat) (x2 : Int32) (x3 : Int32) (x4 : Int32) (x5 : Int32) (h : Hp) (r : Int32 × Hp), fX10_removed_6 n x0 x2 x3 x4 x5 h = some r → pX10_removed_6 D cy s0 p l e s m args below meth c r x0 x2 x3 x4 x5 h := by
  intro n
  induction n with
  | zero => intro x0 x2 x3 x4 x5 h r hf; exact absurd hf (fun q => by cases q)
  | succ n ih => exact bX10_removed_6_body C hn ih
set_option maxRecDepth 100000 in
set_option maxHeartbeats 4000000 in
theorem bX10_removed {D : va_G} {cy : Nat → ClassId} {s0 : Nat} {p : Program} {l : Launch} {e : Env} {s : State} {m : MethodId} {args : Array Value} {below : List Frame} {meth : Method} {c : Code} (C : CX D cy s0 p s m args meth c cX10_removed 6 RX10 (some .int)) (hn : meth.name = "removed") : ∀ (x0 : Nat) (x1 : Int32) (x2 : Int32) (x3 : Int32) (h : Hp) (r : Int32 × Hp), fX10_removed x0 x1 x2 x3 h = some r → pX10_removed D cy s0 p l e s m args below meth c r x0 x1 x2 x3 h := by
  intro x0 x1 x2 x3 h ⟨rv, rh⟩ hf H locs ls cells slots hc hs hw hl
  unfold fX10_removed at hf
  have hx := C.1
  have hb := C.2.1
  refine lv_iconst (v := (0 : Int32)) hx hb dX10_removed_0 (by decide) ?_
  refine lv_istore (lv' := [(4, .int (0 : Int32)), (0, .ref x0), (1, .int x1), (2, .int x2), (3, .int x3)]) hx hb dX10_removed_1 hl (by decide) rfl (fun ls hl => ?_)
  refine lv_iload_n hx hb dX10_removed_3 rfl (lv_at hl 2 rfl) ?_
  refine lv_istore (lv' := [(5, .int x1), (4, .int (0 : Int32)), (0, .ref x0), (1, .int x1), (2, .int x2), (3, .int x3)]) hx hb dX10_removed_4 hl (by decide) rfl (fun ls hl => ?_)
  exact bX10_removed_6 C hn LF _ _ _ _ _ _ _ hf _ _ _ _ _ (by omega) (by omega) hw (lv_sub hl [2, 4, 5, 1, 0] rfl)
theorem kXX10_removed : MK yX10_removed cX10_removed 6 (some .int) 3 := ⟨w1264, w8, by decide +kernel⟩
theorem mX10_removed {D : va_G} {cy : Nat → ClassId} {s0 : Nat} {l : Launch} {x0 : Nat} {x1 : Int32} {x2 : Int32} {x3 : Int32} {h : Hp} {v : Int32} {h1 : Hp} (hf : fX10_removed x0 x1 x2 x3 h = some (v, h1)) : MT D cy s0 l yX10_removed cX10_removed 6 (some .int) rX10_removed [.ref x0, .int x1, .int x2, .int x3] h (some (.int v)) h1 := by
  refine MT.of (by decide +kernel) (Nat.le_of_ble_eq_true rfl) ?_
  intro p e s m below meth c H locs ls C hn hw hl
  exact bX10_removed C hn _ _ _ _ _ _ hf _ _ _ _ _ (Nat.le_of_ble_eq_true rfl) (Nat.le_of_ble_eq_true rfl) hw hl
abbrev rX10_says : Room := { frames := 0, cells := 0, slots := 0, locals := 0 }
abbrev pX10_says (D : va_G) (cy : Nat → ClassId) (s0 : Nat) (p : Program) (l : Launch) (e : Env) (s : State) (m : MethodId) (args : Array Value) (below : List Frame) (meth : Method) (c : Code) (r : Int32 × Hp) (x0 : Nat) (x1 : Int32) (x2 : Int32) (h : Hp) : Prop := ∀ (H : Heap) (locs : List Loc) (ls : Array Slot) (cells slots : Nat), cells + (0) ≤ 0 → slots + (0) ≤ 0 → WS D cy s0 s h H locs → lv_has ls 3 [(0, .ref x0), (1, .int x1), (2, .int x2)] → W p l e rX10_says s m args below meth c H locs cells slots (MQ below (QQ D cy s0 (some (.int r.1)) r.2) args s 0 0 (fun q => s0 ≤ q)) (F0 m 0 ls [])
set_option maxRecDepth 100000 in
set_option maxHeartbeats 4000000 in
theorem bX10_says {D : va_G} {cy : Nat → ClassId} {s0 : Nat} {p : Program} {l : Launch} {e : Env} {s : State} {m : MethodId} {args : Array Value} {below : List Frame} {meth : Method} {c : Code} (C : CX D cy s0 p s m args meth c cX10_says 3 RX10 (some .int)) (hn : meth.name = "says") : ∀ (x0 : Nat) (x1 : Int32) (x2 : Int32) (h : Hp) (r : Int32 × Hp), fX10_says x0 x1 x2 h = some r → pX10_says D cy s0 p l e s m args below meth c r x0 x1 x2 h := by
  intro x0 x1 x2 h ⟨rv, rh⟩ hf H locs ls cells slots hc hs hw hl
  unfold fX10_says at hf
  have hx := C.1
  have hb := C.2.1
  refine lv_iload_n hx hb dX10_says_0 rfl (lv_at hl 2 rfl) ?_
  refine lv_if_ne (tgt := 13) hx hb dX10_says_1 (by decide) (fun c1 => ?_) (fun c1 => ?_)
  · have hf := ie hf c1
    refine lv_iload_n hx hb dX10_says_13 rfl (lv_at hl 2 rfl) ?_
    refine lv_iconst (v := (1 : Int32)) hx hb dX10_says_14 (by decide) ?_
    refine lv_icmp_ne (tgt := 27) hx hb dX10_says_15 (by decide) (fun c2 => ?_) (fun c2 => ?_)
    · have hf := ie hf c2
      refine lv_iload_n hx hb dX10_says_27 rfl (lv_at hl 2 rfl) ?_
      refine lv_iconst (v := (2 : Int32)) hx hb dX10_says_28 (by decide) ?_
      refine lv_icmp_ne (tgt := 41) hx hb dX10_says_29 (by decide) (fun c3 => ?_) (fun c3 => ?_)
      · have hf := ie hf c3
        refine lv_aload_n hx hb dX10_says_41 rfl (lv_at hl 0 rfl) ?_
        obtain ⟨z4, e4, hf⟩ := ob hf
        refine r_gR C hw e4 ck10 rfl (by decide) w999 dX10_says_42 ?_
        cases z4 with
        | none =>
          have hf := on_n hf
          cases hf
        | some a5 =>
          have hf := on_s hf
          refine W.eq (g2 := F0 m 45 ls [.ref a5]) rfl ?_
          refine lv_iload_n hx hb dX10_says_45 rfl (lv_at hl 1 rfl) ?_
          obtain ⟨z6, e6, hf⟩ := ob hf
          refine r_iald C hw e6 dX10_says_46 ?_
          obtain ⟨rfl, rfl⟩ := sp hf
          exact r_iret C hw rfl rfl (by omega) (by omega) dX10_says_47
      · have hf := ip hf c3
        refine lv_aload_n hx hb dX10_says_32 rfl (lv_at hl 0 rfl) ?_
        obtain ⟨z7, e7, hf⟩ := ob hf
        refine r_gR C hw e7 ck10 rfl (by decide) w998 dX10_says_33 ?_
        cases z7 with
        | none =>
          have hf := on_n hf
          cases hf
        | some a8 =>
          have hf := on_s hf
          refine W.eq (g2 := F0 m 36 ls [.ref a8]) rfl ?_
          refine lv_iload_n hx hb dX10_says_36 rfl (lv_at hl 1 rfl) ?_
          obtain ⟨z9, e9, hf⟩ := ob hf
          refine r_iald C hw e9 dX10_says_37 ?_
          refine lv_goto (tgt := 47) hx hb dX10_says_38 (by decide) ?_
          obtain ⟨rfl, rfl⟩ := sp hf
          exact r_iret C hw rfl rfl (by omega) (by omega) dX10_says_47
    · have hf := ip hf c2
      refine lv_aload_n hx hb dX10_says_18 rfl (lv_at hl 0 rfl) ?_
      obtain ⟨z10, e10, hf⟩ := ob hf
      refine r_gR C hw e10 ck10 rfl (by decide) w997 dX10_says_19 ?_
      cases z10 with
      | none =>
        have hf := on_n hf
        cases hf
      | some a11 =>
        have hf := on_s hf
        refine W.eq (g2 := F0 m 22 ls [.ref a11]) rfl ?_
        refine lv_iload_n hx hb dX10_says_22 rfl (lv_at hl 1 rfl) ?_
        obtain ⟨z12, e12, hf⟩ := ob hf
        refine r_iald C hw e12 dX10_says_23 ?_
        refine lv_goto (tgt := 47) hx hb dX10_says_24 (by decide) ?_
        obtain ⟨rfl, rfl⟩ := sp hf
        exact r_iret C hw rfl rfl (by omega) (by omega) dX10_says_47
  · have hf := ip hf c1
    refine lv_aload_n hx hb dX10_says_4 rfl (lv_at hl 0 rfl) ?_
    obtain ⟨z13, e13, hf⟩ := ob hf
    refine r_gR C hw e13 ck10 rfl (by decide) w996 dX10_says_5 ?_
    cases z13 with
    | none =>
      have hf := on_n hf
      cases hf
    | some a14 =>
      have hf := on_s hf
      refine W.eq (g2 := F0 m 8 ls [.ref a14]) rfl ?_
      refine lv_iload_n hx hb dX10_says_8 rfl (lv_at hl 1 rfl) ?_
      obtain ⟨z15, e15, hf⟩ := ob hf
      refine r_iald C hw e15 dX10_says_9 ?_
      refine lv_goto (tgt := 47) hx hb dX10_says_10 (by decide) ?_
      obtain ⟨rfl, rfl⟩ := sp hf
      exact r_iret C hw rfl rfl (by omega) (by omega) dX10_says_47
theorem kXX10_says : MK yX10_says cX10_says 3 (some .int) 2 := ⟨w1272, w8, by decide +kernel⟩
theorem mX10_says {D : va_G} {cy : Nat → ClassId} {s0 : Nat} {l : Launch} {x0 : Nat} {x1 : Int32} {x2 : Int32} {h : Hp} {v : Int32} {h1 : Hp} (hf : fX10_says x0 x1 x2 h = some (v, h1)) : MT D cy s0 l yX10_says cX10_says 3 (some .int) rX10_says [.ref x0, .int x1, .int x2] h (some (.int v)) h1 := by
  refine MT.of (by decide +kernel) (Nat.le_of_ble_eq_true rfl) ?_
  intro p e s m below meth c H locs ls C hn hw hl
  exact bX10_says C hn _ _ _ _ _ hf _ _ _ _ _ (Nat.le_of_ble_eq_true rfl) (Nat.le_of_ble_eq_true rfl) hw hl
abbrev rX10_done : Room := { frames := 3, cells := 0, slots := 0, locals := 69 }
abbrev pX10_done_349 (D : va_G) (cy : Nat → ClassId) (s0 : Nat) (p : Program) (l : Launch) (e : Env) (s : State) (m : MethodId) (args : Array Value) (below : List Frame) (meth : Method) (c : Code) (r : Int32 × Hp) (x0 : Nat) (x8 : Int32) (h : Hp) : Prop := ∀ (H : Heap) (locs : List Loc) (ls : Array Slot) (cells slots : Nat), cells + (0) ≤ 0 → slots + (0) ≤ 0 → WS D cy s0 s h H locs → lv_has ls 10 [(0, .ref x0), (8, .int x8)] → W p l e rX10_done s m args below meth c H locs cells slots (MQ below (QQ D cy s0 (some (.int r.1)) r.2) args s 0 0 (fun q => s0 ≤ q)) (F0 m 349 ls [])
abbrev pX10_done_297 (D : va_G) (cy : Nat → ClassId) (s0 : Nat) (p : Program) (l : Launch) (e : Env) (s : State) (m : MethodId) (args : Array Value) (below : List Frame) (meth : Method) (c : Code) (r : Int32 × Hp) (x0 : Nat) (x8 : Int32) (h : Hp) : Prop := ∀ (H : Heap) (locs : List Loc) (ls : Array Slot) (cells slots : Nat), cells + (0) ≤ 0 → slots + (0) ≤ 0 → WS D cy s0 s h H locs → lv_has ls 10 [(0, .ref x0), (8, .int x8)] → W p l e rX10_done s m args below meth c H locs cells slots (MQ below (QQ D cy s0 (some (.int r.1)) r.2) args s 0 0 (fun q => s0 ≤ q)) (F0 m 297 ls [])
abbrev pX10_done_269 (D : va_G) (cy : Nat → ClassId) (s0 : Nat) (p : Program) (l : Launch) (e : Env) (s : State) (m : MethodId) (args : Array Value) (below : List Frame) (meth : Method) (c : Code) (r : Int32 × Hp) (x0 : Nat) (x2 : Int32) (h : Hp) : Prop := ∀ (H : Heap) (locs : List Loc) (ls : Array Slot) (cells slots : Nat), cells + (0) ≤ 0 → slots + (0) ≤ 0 → WS D cy s0 s h H locs → lv_has ls 10 [(0, .ref x0), (2, .int x2)] → W p l e rX10_done s m args below meth c H locs cells slots (MQ below (QQ D cy s0 (some (.int r.1)) r.2) args s 0 0 (fun q => s0 ≤ q)) (F0 m 269 ls [])
abbrev pX10_done_178 (D : va_G) (cy : Nat → ClassId) (s0 : Nat) (p : Program) (l : Launch) (e : Env) (s : State) (m : MethodId) (args : Array Value) (below : List Frame) (meth : Method) (c : Code) (r : Int32 × Hp) (x9 : Int32) (h : Hp) : Prop := ∀ (H : Heap) (locs : List Loc) (ls : Array Slot) (cells slots : Nat), cells + (0) ≤ 0 → slots + (0) ≤ 0 → WS D cy s0 s h H locs → lv_has ls 10 [(9, .int x9)] → W p l e rX10_done s m args below meth c H locs cells slots (MQ below (QQ D cy s0 (some (.int r.1)) r.2) args s 0 0 (fun q => s0 ≤ q)) (F0 m 178 ls [])
abbrev pX10_done_149 (D : va_G) (cy : Nat → ClassId) (s0 : Nat) (p : Program) (l : Launch) (e : Env) (s : State) (m : MethodId) (args : Array Value) (below : List Frame) (meth : Method) (c : Code) (r : Int32 × Hp) (x0 : Nat) (x6 : Int32) (x7 : Int32) (y0 : Int32) (h : Hp) : Prop := ∀ (H : Heap) (locs : List Loc) (ls : Array Slot) (cells slots : Nat), cells + (0) ≤ 0 → slots + (0) ≤ 0 → WS D cy s0 s h H locs → lv_has ls 10 [(0, .ref x0), (6, .int x6), (7, .int x7)] → W p l e rX10_done s m args below meth c H locs cells slots (MQ below (QQ D cy s0 (some (.int r.1)) r.2) args s 0 0 (fun q => s0 ≤ q)) (F0 m 149 ls [.int y0])
abbrev pX10_done_67 (D : va_G) (cy : Nat → ClassId) (s0 : Nat) (p : Program) (l : Launch) (e : Env) (s : State) (m : MethodId) (args : Array Value) (below : List Frame) (meth : Method) (c : Code) (r : Int32 × Hp) (x0 : Nat) (x2 : Int32) (x3 : Int32) (x4 : Int32) (h : Hp) : Prop := ∀ (H : Heap) (locs : List Loc) (ls : Array Slot) (cells slots : Nat), cells + (0) ≤ 0 → slots + (0) ≤ 0 → WS D cy s0 s h H locs → lv_has ls 10 [(0, .ref x0), (2, .int x2), (3, .int x3), (4, .int x4)] → W p l e rX10_done s m args below meth c H locs cells slots (MQ below (QQ D cy s0 (some (.int r.1)) r.2) args s 0 0 (fun q => s0 ≤ q)) (F0 m 67 ls [])
abbrev pX10_done (D : va_G) (cy : Nat → ClassId) (s0 : Nat) (p : Program) (l : Launch) (e : Env) (s : State) (m : MethodId) (args : Array Value) (below : List Frame) (meth : Method) (c : Code) (r : Int32 × Hp) (x0 : Nat) (x1 : Int32) (x2 : Int32) (x3 : Int32) (x4 : Int32) (x5 : Int32) (x6 : Int32) (x7 : Int32) (h : Hp) : Prop := ∀ (H : Heap) (locs : List Loc) (ls : Array Slot) (cells slots : Nat), cells + (0) ≤ 0 → slots + (0) ≤ 0 → WS D cy s0 s h H locs → lv_has ls 10 [(0, .ref x0), (1, .int x1), (2, .int x2), (3, .int x3), (4, .int x4), (5, .int x5), (6, .int x6), (7, .int x7)] → W p l e rX10_done s m args below meth c H locs cells slots (MQ below (QQ D cy s0 (some (.int r.1)) r.2) args s 0 0 (fun q => s0 ≤ q)) (F0 m 0 ls [])
set_option maxRecDepth 100000 in
set_option maxHeartbeats 4000000 in
theorem bX10_done_349 {D : va_G} {cy : Nat → ClassId} {s0 : Nat} {p : Program} {l : Launch} {e : Env} {s : State} {m : MethodId} {args : Array Value} {below : List Frame} {meth : Method} {c : Code} (C : CX D cy s0 p s m args meth c cX10_done 10 RX10 (some .int)) (hn : meth.name = "done") {k297 : Nat → Int32 → Hp → Option (Int32 × Hp)} (hk297 : ∀ (x0 : Nat) (x8 : Int32) (h : Hp) (r : Int32 × Hp), k297 x0 x8 h = some r → pX10_done_297 D cy s0 p l e s m args below meth c r x0 x8 h) : ∀ (x0 : Nat) (x8 : Int32) (h : Hp) (r : Int32 × Hp), fX10_done_349 k297 x0 x8 h = some r → pX10_done_349 D cy s0 p l e s m args below meth c r x0 x8 h := by
  intro x0 x8 h ⟨rv, rh⟩ hf H locs ls cells slots hc hs hw hl
  unfold fX10_done_349 at hf
  have hx := C.1
  have hb := C.2.1
  refine lv_iinc (v := (x8 + (1 : Int32))) (lv' := [(8, .int (x8 + (1 : Int32))), (0, .ref x0)]) hx hb dX10_done_349 hl (k := 1) rfl rfl (by decide) rfl (fun ls hl => ?_)
  refine lv_goto (tgt := 297) hx hb dX10_done_352 (by decide) ?_
  exact hk297 _ _ _ _ hf _ _ _ _ _ (by omega) (by omega) hw (lv_sub hl [1, 0] rfl)
set_option maxRecDepth 100000 in
set_option maxHeartbeats 4000000 in
theorem bX10_done_297_body {D : va_G} {cy : Nat → ClassId} {s0 : Nat} {p : Program} {l : Launch} {e : Env} {s : State} {m : MethodId} {args : Array Value} {below : List Frame} {meth : Method} {c : Code} (C : CX D cy s0 p s m args meth c cX10_done 10 RX10 (some .int)) (hn : meth.name = "done") {k297 : Nat → Int32 → Hp → Option (Int32 × Hp)} (hk297 : ∀ (x0 : Nat) (x8 : Int32) (h : Hp) (r : Int32 × Hp), k297 x0 x8 h = some r → pX10_done_297 D cy s0 p l e s m args below meth c r x0 x8 h) : ∀ (x0 : Nat) (x8 : Int32) (h : Hp) (r : Int32 × Hp), fX10_done_297_body k297 x0 x8 h = some r → pX10_done_297 D cy s0 p l e s m args below meth c r x0 x8 h := by
  intro x0 x8 h ⟨rv, rh⟩ hf H locs ls cells slots hc hs hw hl
  unfold fX10_done_297_body at hf
  have hx := C.1
  have hb := C.2.1
  refine lv_iload hx hb dX10_done_297 (lv_at hl 1 rfl) ?_
  refine lv_bipush (v := (8 : Int32)) hx hb dX10_done_299 (by decide) ?_
  refine lv_icmp_gt (tgt := 355) hx hb dX10_done_301 (by decide) (fun c1 => ?_) (fun c1 => ?_)
  · have hf := ip hf c1
    refine lv_aload_n hx hb dX10_done_355 rfl (lv_at hl 0 rfl) ?_
    obtain ⟨z2, e2, hf⟩ := ob hf
    refine r_gI C hw e2 ck10 rfl (by decide) w1004 dX10_done_356 ?_
    obtain ⟨rfl, rfl⟩ := sp hf
    exact r_iret C hw rfl rfl (by omega) (by omega) dX10_done_359
  · have hf := ie hf c1
    refine lv_aload_n hx hb dX10_done_304 rfl (lv_at hl 0 rfl) ?_
    obtain ⟨z3, e3, hf⟩ := ob hf
    refine r_gR C hw e3 ck10 rfl (by decide) w1001 dX10_done_305 ?_
    cases z3 with
    | none =>
      have hf := on_n hf
      cases hf
    | some a4 =>
      have hf := on_s hf
      refine W.eq (g2 := F0 m 308 ls [.ref a4]) rfl ?_
      refine lv_iload hx hb dX10_done_308 (lv_at hl 1 rfl) ?_
      obtain ⟨z5, e5, hf⟩ := ob hf
      refine r_zald C hw e5 dX10_done_310 ?_
      refine lv_if_eq (tgt := 349) hx hb dX10_done_311 (by decide) (fun c6 => ?_) (fun c6 => ?_)
      · have hf := ip hf c6
        exact bX10_done_349 C hn hk297 _ _ _ _ hf _ _ _ _ _ (by omega) (by omega) hw (lv_sub hl [0, 1] rfl)
      · have hf := ie hf c6
        refine lv_aload_n hx hb dX10_done_314 rfl (lv_at hl 0 rfl) ?_
        obtain ⟨z7, e7, hf⟩ := ob hf
        refine r_gR C hw e7 ck10 rfl (by decide) w1002 dX10_done_315 ?_
        cases z7 with
        | none =>
          have hf := on_n hf
          cases hf
        | some a8 =>
          have hf := on_s hf
          refine W.eq (g2 := F0 m 318 ls [.ref a8]) rfl ?_
          refine lv_iload hx hb dX10_done_318 (lv_at hl 1 rfl) ?_
          obtain ⟨z9, e9, hf⟩ := ob hf
          refine r_iald C hw e9 dX10_done_320 ?_
          refine lv_aload_n hx hb dX10_done_321 rfl (lv_at hl 0 rfl) ?_
          obtain ⟨z10, e10, hf⟩ := ob hf
          refine r_gI C hw e10 ck10 rfl (by decide) w1004 dX10_done_322 ?_
          refine lv_icmp_le (tgt := 331) hx hb dX10_done_325 (by decide) (fun c11 => ?_) (fun c11 => ?_)
          · have hf := ip hf c11
            refine lv_aload_n hx hb dX10_done_331 rfl (lv_at hl 0 rfl) ?_
            obtain ⟨z12, e12, hf⟩ := ob hf
            refine r_gR C hw e12 ck10 rfl (by decide) w1001 dX10_done_332 ?_
            cases z12 with
            | none =>
              have hf := on_n hf
              cases hf
            | some a13 =>
              have hf := on_s hf
              refine W.eq (g2 := F0 m 335 ls [.ref a13]) rfl ?_
              refine lv_iload hx hb dX10_done_335 (lv_at hl 1 rfl) ?_
              refine lv_iconst (v := (0 : Int32)) hx hb dX10_done_337 (by decide) ?_
              obtain ⟨h14, e14, hf⟩ := ob hf
              refine r_zast C hw e14 dX10_done_338 (fun H locs hw => ?_)
              refine lv_aload_n hx hb dX10_done_339 rfl (lv_at hl 0 rfl) ?_
              refine lv_iconst (v := (0 : Int32)) hx hb dX10_done_340 (by decide) ?_
              refine lv_bipush (v := (63 : Int32)) hx hb dX10_done_341 (by decide) ?_
              refine lv_iload hx hb dX10_done_343 (lv_at hl 1 rfl) ?_
              obtain ⟨kb15, hf⟩ := ig hf
              obtain ⟨z15, h15, e15, hf⟩ := ob2 hf
              refine r_callV C hw (mX10_removed e15) kXX10_removed ck10 rfl kb15 w1261 w1263 v57 ⟨Nat.le_of_ble_eq_true rfl, Nat.le_of_ble_eq_true rfl⟩ rfl hl.1 (rest := []) rfl (Nat.le_of_ble_eq_true rfl) dX10_done_345 (mc := 0) (ms := 0) rfl rfl ⟨by show _ + 0 ≤ 0; omega, by show _ + 0 ≤ 0; omega⟩ (fun H locs hw => ?_)
              refine W.eq (g2 := F0 m 348 ls [.int z15]) rfl ?_
              refine lv_pop hx hb dX10_done_348 rfl ?_
              exact bX10_done_349 C hn hk297 _ _ _ _ hf _ _ _ _ _ (by omega) (by omega) hw (lv_sub hl [0, 1] rfl)
          · have hf := ie hf c11
            refine lv_goto (tgt := 349) hx hb dX10_done_328 (by decide) ?_
            exact bX10_done_349 C hn hk297 _ _ _ _ hf _ _ _ _ _ (by omega) (by omega) hw (lv_sub hl [0, 1] rfl)
set_option maxRecDepth 100000 in
set_option maxHeartbeats 4000000 in
theorem bX10_done_297 {D : va_G} {cy : Nat → ClassId} {s0 : Nat} {p : Program} {l : Launch} {e : Env} {s : State} {m : MethodId} {args : Array Value} {below : List Frame} {meth : Method} {c : Code} (C : CX D cy s0 p s m args meth c cX10_done 10 RX10 (some .int)) (hn : meth.name = "done") : ∀ (n : Nat) (x0 : Nat) (x8 : Int32) (h : Hp) (r : Int32 × Hp), fX10_done_297 n x0 x8 h = some r → pX10_done_297 D cy s0 p l e s m args below meth c r x0 x8 h := by
  intro n
  induction n with
  | zero => intro x0 x8 h r hf; exact absurd hf (fun q => by cases q)
  | succ n ih => exact bX10_done_297_body C hn ih
set_option maxRecDepth 100000 in
set_option maxHeartbeats 4000000 in
theorem bX10_done_269 {D : va_G} {cy : Nat → ClassId} {s0 : Nat} {p : Program} {l : Launch} {e : Env} {s : State} {m : MethodId} {args : Array Value} {below : List Frame} {meth : Method} {c : Code} (C : CX D cy s0 p s m args meth c cX10_done 10 RX10 (some .int)) (hn : meth.name = "done") : ∀ (x0 : Nat) (x2 : Int32) (h : Hp) (r : Int32 × Hp), fX10_done_269 x0 x2 h = some r → pX10_done_269 D cy s0 p l e s m args below meth c r x0 x2 h := by
  intro x0 x2 h ⟨rv, rh⟩ hf H locs ls cells slots hc hs hw hl
  unfold fX10_done_269 at hf
  have hx := C.1
  have hb := C.2.1
  refine lv_aload_n hx hb dX10_done_269 rfl (lv_at hl 0 rfl) ?_
  obtain ⟨z1, e1, hf⟩ := ob hf
  refine r_gR C hw e1 ck10 rfl (by decide) w1001 dX10_done_270 ?_
  cases z1 with
  | none =>
    have hf := on_n hf
    cases hf
  | some a2 =>
    have hf := on_s hf
    refine W.eq (g2 := F0 m 273 ls [.ref a2]) rfl ?_
    refine lv_iload_n hx hb dX10_done_273 rfl (lv_at hl 1 rfl) ?_
    obtain ⟨z3, e3, hf⟩ := ob hf
    refine r_zald C hw e3 dX10_done_274 ?_
    refine lv_if_eq (tgt := 282) hx hb dX10_done_275 (by decide) (fun c4 => ?_) (fun c4 => ?_)
    · have hf := ip hf c4
      refine lv_iconst (v := (0 : Int32)) hx hb dX10_done_282 (by decide) ?_
      obtain ⟨rfl, rfl⟩ := sp hf
      exact r_iret C hw rfl rfl (by omega) (by omega) dX10_done_283
    · have hf := ie hf c4
      refine lv_iconst (v := (1 : Int32)) hx hb dX10_done_278 (by decide) ?_
      refine lv_goto (tgt := 283) hx hb dX10_done_279 (by decide) ?_
      obtain ⟨rfl, rfl⟩ := sp hf
      exact r_iret C hw rfl rfl (by omega) (by omega) dX10_done_283
set_option maxRecDepth 100000 in
set_option maxHeartbeats 4000000 in
theorem bX10_done_178 {D : va_G} {cy : Nat → ClassId} {s0 : Nat} {p : Program} {l : Launch} {e : Env} {s : State} {m : MethodId} {args : Array Value} {below : List Frame} {meth : Method} {c : Code} (C : CX D cy s0 p s m args meth c cX10_done 10 RX10 (some .int)) (hn : meth.name = "done") : ∀ (x9 : Int32) (h : Hp) (r : Int32 × Hp), fX10_done_178 x9 h = some r → pX10_done_178 D cy s0 p l e s m args below meth c r x9 h := by
  intro x9 h ⟨rv, rh⟩ hf H locs ls cells slots hc hs hw hl
  unfold fX10_done_178 at hf
  have hx := C.1
  have hb := C.2.1
  refine lv_iload hx hb dX10_done_178 (lv_at hl 0 rfl) ?_
  refine lv_if_eq (tgt := 187) hx hb dX10_done_180 (by decide) (fun c1 => ?_) (fun c1 => ?_)
  · have hf := ip hf c1
    refine lv_iconst (v := (0 : Int32)) hx hb dX10_done_187 (by decide) ?_
    obtain ⟨rfl, rfl⟩ := sp hf
    exact r_iret C hw rfl rfl (by omega) (by omega) dX10_done_188
  · have hf := ie hf c1
    refine lv_iconst (v := (1 : Int32)) hx hb dX10_done_183 (by decide) ?_
    refine lv_goto (tgt := 188) hx hb dX10_done_184 (by decide) ?_
    obtain ⟨rfl, rfl⟩ := sp hf
    exact r_iret C hw rfl rfl (by omega) (by omega) dX10_done_188
set_option maxRecDepth 100000 in
set_option maxHeartbeats 4000000 in
theorem bX10_done_149 {D : va_G} {cy : Nat → ClassId} {s0 : Nat} {p : Program} {l : Launch} {e : Env} {s : State} {m : MethodId} {args : Array Value} {below : List Frame} {meth : Method} {c : Code} (C : CX D cy s0 p s m args meth c cX10_done 10 RX10 (some .int)) (hn : meth.name = "done") : ∀ (x0 : Nat) (x6 : Int32) (x7 : Int32) (y0 : Int32) (h : Hp) (r : Int32 × Hp), fX10_done_149 x0 x6 x7 y0 h = some r → pX10_done_149 D cy s0 p l e s m args below meth c r x0 x6 x7 y0 h := by
  intro x0 x6 x7 y0 h ⟨rv, rh⟩ hf H locs ls cells slots hc hs hw hl
  unfold fX10_done_149 at hf
  have hx := C.1
  have hb := C.2.1
  refine lv_istore (lv' := [(9, .int y0), (0, .ref x0), (6, .int x6), (7, .int x7)]) hx hb dX10_done_149 hl (by decide) rfl (fun ls hl => ?_)
  refine lv_iload hx hb dX10_done_151 (lv_at hl 0 rfl) ?_
  refine lv_if_eq (tgt := 168) hx hb dX10_done_153 (by decide) (fun c1 => ?_) (fun c1 => ?_)
  · have hf := ip hf c1
    refine lv_aload_n hx hb dX10_done_168 rfl (lv_at hl 1 rfl) ?_
    refine lv_iload hx hb dX10_done_169 (lv_at hl 2 rfl) ?_
    refine lv_iload hx hb dX10_done_171 (lv_at hl 2 rfl) ?_
    refine lv_iconst (v := (-1 : Int32)) hx hb dX10_done_173 (by decide) ?_
    obtain ⟨kb2, hf⟩ := ig hf
    obtain ⟨z2, h2, e2, hf⟩ := ob2 hf
    refine r_callV C hw (mX10_removed e2) kXX10_removed ck10 rfl kb2 w1261 w1263 v57 ⟨Nat.le_of_ble_eq_true rfl, Nat.le_of_ble_eq_true rfl⟩ rfl hl.1 (rest := []) rfl (Nat.le_of_ble_eq_true rfl) dX10_done_174 (mc := 0) (ms := 0) rfl rfl ⟨by show _ + 0 ≤ 0; omega, by show _ + 0 ≤ 0; omega⟩ (fun H locs hw => ?_)
    refine W.eq (g2 := F0 m 177 ls [.int z2]) rfl ?_
    refine lv_pop hx hb dX10_done_177 rfl ?_
    exact bX10_done_178 C hn _ _ _ hf _ _ _ _ _ (by omega) (by omega) hw (lv_sub hl [0] rfl)
  · have hf := ie hf c1
    refine lv_aload_n hx hb dX10_done_156 rfl (lv_at hl 1 rfl) ?_
    refine lv_iload hx hb dX10_done_157 (lv_at hl 2 rfl) ?_
    refine lv_iload hx hb dX10_done_159 (lv_at hl 3 rfl) ?_
    refine lv_iconst (v := (0 : Int32)) hx hb dX10_done_161 (by decide) ?_
    obtain ⟨kb3, hf⟩ := ig hf
    obtain ⟨z3, h3, e3, hf⟩ := ob2 hf
    refine r_callV C hw (mX10_put e3) kXX10_put ck10 rfl kb3 w1253 w1255 v55 ⟨Nat.le_of_ble_eq_true rfl, Nat.le_of_ble_eq_true rfl⟩ rfl hl.1 (rest := []) rfl (Nat.le_of_ble_eq_true rfl) dX10_done_162 (mc := 0) (ms := 0) rfl rfl ⟨by show _ + 0 ≤ 0; omega, by show _ + 0 ≤ 0; omega⟩ (fun H locs hw => ?_)
    refine W.eq (g2 := F0 m 165 ls []) rfl ?_
    refine lv_goto (tgt := 178) hx hb dX10_done_165 (by decide) ?_
    exact bX10_done_178 C hn _ _ _ hf _ _ _ _ _ (by omega) (by omega) hw (lv_sub hl [0] rfl)
set_option maxRecDepth 100000 in
set_option maxHeartbeats 4000000 in
theorem bX10_done_67 {D : va_G} {cy : Nat → ClassId} {s0 : Nat} {p : Program} {l : Launch} {e : Env} {s : State} {m : MethodId} {args : Array Value} {below : List Frame} {meth : Method} {c : Code} (C : CX D cy s0 p s m args meth c cX10_done 10 RX10 (some .int)) (hn : meth.name = "done") : ∀ (x0 : Nat) (x2 : Int32) (x3 : Int32) (x4 : Int32) (h : Hp) (r : Int32 × Hp), fX10_done_67 x0 x2 x3 x4 h = some r → pX10_done_67 D cy s0 p l e s m args below meth c r x0 x2 x3 x4 h := by
  intro x0 x2 x3 x4 h ⟨rv, rh⟩ hf H locs ls cells slots hc hs hw hl
  unfold fX10_done_67 at hf
  have hx := C.1
  have hb := C.2.1
  refine lv_aload_n hx hb dX10_done_67 rfl (lv_at hl 0 rfl) ?_
  refine lv_iload_n hx hb dX10_done_68 rfl (lv_at hl 1 rfl) ?_
  refine lv_iload_n hx hb dX10_done_69 rfl (lv_at hl 2 rfl) ?_
  refine lv_iload hx hb dX10_done_70 (lv_at hl 3 rfl) ?_
  obtain ⟨kb1, hf⟩ := ig hf
  obtain ⟨z1, h1, e1, hf⟩ := ob2 hf
  refine r_callV C hw (mX10_put e1) kXX10_put ck10 rfl kb1 w1253 w1255 v55 ⟨Nat.le_of_ble_eq_true rfl, Nat.le_of_ble_eq_true rfl⟩ rfl hl.1 (rest := []) rfl (Nat.le_of_ble_eq_true rfl) dX10_done_72 (mc := 0) (ms := 0) rfl rfl ⟨by show _ + 0 ≤ 0; omega, by show _ + 0 ≤ 0; omega⟩ (fun H locs hw => ?_)
  refine W.eq (g2 := F0 m 75 ls []) rfl ?_
  refine lv_aload_n hx hb dX10_done_75 rfl (lv_at hl 0 rfl) ?_
  obtain ⟨z2, e2, hf⟩ := ob hf
  refine r_gI C hw e2 ck10 rfl (by decide) w1003 dX10_done_76 ?_
  obtain ⟨rfl, rfl⟩ := sp hf
  exact r_iret C hw rfl rfl (by omega) (by omega) dX10_done_79
set_option maxRecDepth 100000 in
set_option maxHeartbeats 4000000 in
theorem bX10_done {D : va_G} {cy : Nat → ClassId} {s0 : Nat} {p : Program} {l : Launch} {e : Env} {s : State} {m : MethodId} {args : Array Value} {below : List Frame} {meth : Method} {c : Code} (C : CX D cy s0 p s m args meth c cX10_done 10 RX10 (some .int)) (hn : meth.name = "done") : ∀ (x0 : Nat) (x1 : Int32) (x2 : Int32) (x3 : Int32) (x4 : Int32) (x5 : Int32) (x6 : Int32) (x7 : Int32) (h : Hp) (r : Int32 × Hp), fX10_done x0 x1 x2 x3 x4 x5 x6 x7 h = some r → pX10_done D cy s0 p l e s m args below meth c r x0 x1 x2 x3 x4 x5 x6 x7 h := by
  intro x0 x1 x2 x3 x4 x5 x6 x7 h ⟨rv, rh⟩ hf H locs ls cells slots hc hs hw hl
  unfold fX10_done at hf
  have hx := C.1
  have hb := C.2.1
  refine lv_iload_n hx hb dX10_done_0 rfl (lv_at hl 1 rfl) ?_
  by_cases n49 : x1 = (0 : Int32)
  · have hf := ip hf n49
    refine lv_tableIn (tgt := 48) (off := 47) hx hb dX10_done_1 (by rw [n49]; decide) (by rw [n49]; decide) (by rw [n49]; rfl) (by decide) ?_
    refine lv_iconst (v := (0 : Int32)) hx hb dX10_done_48 (by decide) ?_
    obtain ⟨rfl, rfl⟩ := sp hf
    exact r_iret C hw rfl rfl (by omega) (by omega) dX10_done_49
  · have hf := ie hf n49
    by_cases n50 : x1 = (1 : Int32)
    · have hf := ip hf n50
      refine lv_tableIn (tgt := 50) (off := 49) hx hb dX10_done_1 (by rw [n50]; decide) (by rw [n50]; decide) (by rw [n50]; rfl) (by decide) ?_
      refine lv_iload hx hb dX10_done_50 (lv_at hl 4 rfl) ?_
      refine lv_if_eq (tgt := 67) hx hb dX10_done_52 (by decide) (fun c6 => ?_) (fun c6 => ?_)
      · have hf := ip hf c6
        exact bX10_done_67 C hn _ _ _ _ _ _ hf _ _ _ _ _ (by omega) (by omega) hw (lv_sub hl [0, 2, 3, 4] rfl)
      · have hf := ie hf c6
        refine lv_aload_n hx hb dX10_done_55 rfl (lv_at hl 0 rfl) ?_
        obtain ⟨z7, e7, hf⟩ := ob hf
        refine r_gR C hw e7 ck10 rfl (by decide) w1001 dX10_done_56 ?_
        cases z7 with
        | none =>
          have hf := on_n hf
          cases hf
        | some a8 =>
          have hf := on_s hf
          refine W.eq (g2 := F0 m 59 ls [.ref a8]) rfl ?_
          refine lv_iload hx hb dX10_done_59 (lv_at hl 4 rfl) ?_
          obtain ⟨z9, e9, hf⟩ := ob hf
          refine r_zald C hw e9 dX10_done_61 ?_
          refine lv_if_ne (tgt := 67) hx hb dX10_done_62 (by decide) (fun c10 => ?_) (fun c10 => ?_)
          · have hf := ie hf c10
            exact bX10_done_67 C hn _ _ _ _ _ _ hf _ _ _ _ _ (by omega) (by omega) hw (lv_sub hl [0, 2, 3, 4] rfl)
          · have hf := ip hf c10
            refine lv_iconst (v := (-1 : Int32)) hx hb dX10_done_65 (by decide) ?_
            obtain ⟨rfl, rfl⟩ := sp hf
            exact r_iret C hw rfl rfl (by omega) (by omega) dX10_done_66
    · have hf := ie hf n50
      by_cases n51 : x1 = (2 : Int32)
      · have hf := ip hf n51
        refine lv_tableIn (tgt := 80) (off := 79) hx hb dX10_done_1 (by rw [n51]; decide) (by rw [n51]; decide) (by rw [n51]; rfl) (by decide) ?_
        refine lv_aload_n hx hb dX10_done_80 rfl (lv_at hl 0 rfl) ?_
        refine lv_iload_n hx hb dX10_done_81 rfl (lv_at hl 2 rfl) ?_
        refine lv_iload_n hx hb dX10_done_82 rfl (lv_at hl 3 rfl) ?_
        refine lv_iconst (v := (-1 : Int32)) hx hb dX10_done_83 (by decide) ?_
        obtain ⟨kb11, hf⟩ := ig hf
        obtain ⟨z11, h11, e11, hf⟩ := ob2 hf
        refine r_callV C hw (mX10_removed e11) kXX10_removed ck10 rfl kb11 w1261 w1263 v57 ⟨Nat.le_of_ble_eq_true rfl, Nat.le_of_ble_eq_true rfl⟩ rfl hl.1 (rest := []) rfl (Nat.le_of_ble_eq_true rfl) dX10_done_84 (mc := 0) (ms := 0) rfl rfl ⟨by show _ + 0 ≤ 0; omega, by show _ + 0 ≤ 0; omega⟩ (fun H locs hw => ?_)
        refine W.eq (g2 := F0 m 87 ls [.int z11]) rfl ?_
        obtain ⟨rfl, rfl⟩ := sp hf
        exact r_iret C hw rfl rfl (by omega) (by omega) dX10_done_87
      · have hf := ie hf n51
        by_cases n52 : x1 = (3 : Int32)
        · have hf := ip hf n52
          refine lv_tableIn (tgt := 88) (off := 87) hx hb dX10_done_1 (by rw [n52]; decide) (by rw [n52]; decide) (by rw [n52]; rfl) (by decide) ?_
          refine lv_aload_n hx hb dX10_done_88 rfl (lv_at hl 0 rfl) ?_
          refine lv_iload_n hx hb dX10_done_89 rfl (lv_at hl 2 rfl) ?_
          refine lv_iload_n hx hb dX10_done_90 rfl (lv_at hl 3 rfl) ?_
          obtain ⟨kb12, hf⟩ := ig hf
          obtain ⟨z12, h12, e12, hf⟩ := ob2 hf
          refine r_callV C hw (mX10_says e12) kXX10_says ck10 rfl kb12 w1269 w1271 v59 ⟨Nat.le_of_ble_eq_true rfl, Nat.le_of_ble_eq_true rfl⟩ rfl hl.1 (rest := []) rfl (Nat.le_of_ble_eq_true rfl) dX10_done_91 (mc := 0) (ms := 0) rfl rfl ⟨by show _ + 0 ≤ 0; omega, by show _ + 0 ≤ 0; omega⟩ (fun H locs hw => ?_)
          refine W.eq (g2 := F0 m 94 ls [.int z12]) rfl ?_
          refine lv_istore (lv' := [(8, .int z12), (0, .ref x0), (1, .int x1), (2, .int x2), (3, .int x3), (4, .int x4), (5, .int x5), (6, .int x6), (7, .int x7)]) hx hb dX10_done_94 hl (by decide) rfl (fun ls hl => ?_)
          refine lv_iload hx hb dX10_done_96 (lv_at hl 5 rfl) ?_
          refine lv_if_ne (tgt := 116) hx hb dX10_done_98 (by decide) (fun c13 => ?_) (fun c13 => ?_)
          · have hf := ie hf c13
            refine lv_iload hx hb dX10_done_116 (lv_at hl 5 rfl) ?_
            refine lv_iconst (v := (1 : Int32)) hx hb dX10_done_118 (by decide) ?_
            refine lv_icmp_ne (tgt := 137) hx hb dX10_done_119 (by decide) (fun c14 => ?_) (fun c14 => ?_)
            · have hf := ie hf c14
              refine lv_iload hx hb dX10_done_137 (lv_at hl 0 rfl) ?_
              refine lv_iload hx hb dX10_done_139 (lv_at hl 6 rfl) ?_
              refine lv_icmp_le (tgt := 148) hx hb dX10_done_141 (by decide) (fun c15 => ?_) (fun c15 => ?_)
              · have hf := ip hf c15
                refine lv_iconst (v := (0 : Int32)) hx hb dX10_done_148 (by decide) ?_
                exact bX10_done_149 C hn _ _ _ _ _ _ hf _ _ _ _ _ (by omega) (by omega) hw (lv_sub hl [1, 7, 8] rfl)
              · have hf := ie hf c15
                refine lv_iconst (v := (1 : Int32)) hx hb dX10_done_144 (by decide) ?_
                refine lv_goto (tgt := 149) hx hb dX10_done_145 (by decide) ?_
                exact bX10_done_149 C hn _ _ _ _ _ _ hf _ _ _ _ _ (by omega) (by omega) hw (lv_sub hl [1, 7, 8] rfl)
            · have hf := ip hf c14
              refine lv_iload hx hb dX10_done_122 (lv_at hl 0 rfl) ?_
              refine lv_iload hx hb dX10_done_124 (lv_at hl 6 rfl) ?_
              refine lv_icmp_ge (tgt := 133) hx hb dX10_done_126 (by decide) (fun c16 => ?_) (fun c16 => ?_)
              · have hf := ip hf c16
                refine lv_iconst (v := (0 : Int32)) hx hb dX10_done_133 (by decide) ?_
                refine lv_goto (tgt := 149) hx hb dX10_done_134 (by decide) ?_
                exact bX10_done_149 C hn _ _ _ _ _ _ hf _ _ _ _ _ (by omega) (by omega) hw (lv_sub hl [1, 7, 8] rfl)
              · have hf := ie hf c16
                refine lv_iconst (v := (1 : Int32)) hx hb dX10_done_129 (by decide) ?_
                refine lv_goto (tgt := 149) hx hb dX10_done_130 (by decide) ?_
                exact bX10_done_149 C hn _ _ _ _ _ _ hf _ _ _ _ _ (by omega) (by omega) hw (lv_sub hl [1, 7, 8] rfl)
          · have hf := ip hf c13
            refine lv_iload hx hb dX10_done_101 (lv_at hl 0 rfl) ?_
            refine lv_iload hx hb dX10_done_103 (lv_at hl 6 rfl) ?_
            refine lv_icmp_ne (tgt := 112) hx hb dX10_done_105 (by decide) (fun c17 => ?_) (fun c17 => ?_)
            · have hf := ie hf c17
              refine lv_iconst (v := (0 : Int32)) hx hb dX10_done_112 (by decide) ?_
              refine lv_goto (tgt := 149) hx hb dX10_done_113 (by decide) ?_
              exact bX10_done_149 C hn _ _ _ _ _ _ hf _ _ _ _ _ (by omega) (by omega) hw (lv_sub hl [1, 7, 8] rfl)
            · have hf := ip hf c17
              refine lv_iconst (v := (1 : Int32)) hx hb dX10_done_108 (by decide) ?_
              refine lv_goto (tgt := 149) hx hb dX10_done_109 (by decide) ?_
              exact bX10_done_149 C hn _ _ _ _ _ _ hf _ _ _ _ _ (by omega) (by omega) hw (lv_sub hl [1, 7, 8] rfl)
        · have hf := ie hf n52
          by_cases n53 : x1 = (4 : Int32)
          · have hf := ip hf n53
            refine lv_tableIn (tgt := 189) (off := 188) hx hb dX10_done_1 (by rw [n53]; decide) (by rw [n53]; decide) (by rw [n53]; rfl) (by decide) ?_
            refine lv_aload_n hx hb dX10_done_189 rfl (lv_at hl 0 rfl) ?_
            obtain ⟨z18, e18, hf⟩ := ob hf
            refine r_gR C hw e18 ck10 rfl (by decide) w1001 dX10_done_190 ?_
            cases z18 with
            | none =>
              have hf := on_n hf
              cases hf
            | some a19 =>
              have hf := on_s hf
              refine W.eq (g2 := F0 m 193 ls [.ref a19]) rfl ?_
              refine lv_iload_n hx hb dX10_done_193 rfl (lv_at hl 2 rfl) ?_
              obtain ⟨z20, e20, hf⟩ := ob hf
              refine r_zald C hw e20 dX10_done_194 ?_
              refine lv_if_eq (tgt := 200) hx hb dX10_done_195 (by decide) (fun c21 => ?_) (fun c21 => ?_)
              · have hf := ip hf c21
                refine lv_aload_n hx hb dX10_done_200 rfl (lv_at hl 0 rfl) ?_
                obtain ⟨z22, e22, hf⟩ := ob hf
                refine r_gR C hw e22 ck10 rfl (by decide) w1001 dX10_done_201 ?_
                cases z22 with
                | none =>
                  have hf := on_n hf
                  cases hf
                | some a23 =>
                  have hf := on_s hf
                  refine W.eq (g2 := F0 m 204 ls [.ref a23]) rfl ?_
                  refine lv_iload_n hx hb dX10_done_204 rfl (lv_at hl 2 rfl) ?_
                  refine lv_iconst (v := (1 : Int32)) hx hb dX10_done_205 (by decide) ?_
                  obtain ⟨h24, e24, hf⟩ := ob hf
                  refine r_zast C hw e24 dX10_done_206 (fun H locs hw => ?_)
                  refine lv_aload_n hx hb dX10_done_207 rfl (lv_at hl 0 rfl) ?_
                  obtain ⟨z25, e25, hf⟩ := ob hf
                  refine r_gR C hw e25 ck10 rfl (by decide) w1002 dX10_done_208 ?_
                  cases z25 with
                  | none =>
                    have hf := on_n hf
                    cases hf
                  | some a26 =>
                    have hf := on_s hf
                    refine W.eq (g2 := F0 m 211 ls [.ref a26]) rfl ?_
                    refine lv_iload_n hx hb dX10_done_211 rfl (lv_at hl 2 rfl) ?_
                    refine lv_aload_n hx hb dX10_done_212 rfl (lv_at hl 0 rfl) ?_
                    obtain ⟨z27, e27, hf⟩ := ob hf
                    refine r_gI C hw e27 ck10 rfl (by decide) w1004 dX10_done_213 ?_
                    refine lv_iload_n hx hb dX10_done_216 rfl (lv_at hl 3 rfl) ?_
                    refine lv_iadd hx hb dX10_done_217 ?_
                    obtain ⟨h28, e28, hf⟩ := ob hf
                    refine r_iast C hw e28 dX10_done_218 (fun H locs hw => ?_)
                    refine lv_iconst (v := (1 : Int32)) hx hb dX10_done_219 (by decide) ?_
                    obtain ⟨rfl, rfl⟩ := sp hf
                    exact r_iret C hw rfl rfl (by omega) (by omega) dX10_done_220
              · have hf := ie hf c21
                refine lv_iconst (v := (0 : Int32)) hx hb dX10_done_198 (by decide) ?_
                obtain ⟨rfl, rfl⟩ := sp hf
                exact r_iret C hw rfl rfl (by omega) (by omega) dX10_done_199
          · have hf := ie hf n53
            by_cases n54 : x1 = (5 : Int32)
            · have hf := ip hf n54
              refine lv_tableIn (tgt := 221) (off := 220) hx hb dX10_done_1 (by rw [n54]; decide) (by rw [n54]; decide) (by rw [n54]; rfl) (by decide) ?_
              refine lv_aload_n hx hb dX10_done_221 rfl (lv_at hl 0 rfl) ?_
              obtain ⟨z30, e30, hf⟩ := ob hf
              refine r_gR C hw e30 ck10 rfl (by decide) w1001 dX10_done_222 ?_
              cases z30 with
              | none =>
                have hf := on_n hf
                cases hf
              | some a31 =>
                have hf := on_s hf
                refine W.eq (g2 := F0 m 225 ls [.ref a31]) rfl ?_
                refine lv_iload_n hx hb dX10_done_225 rfl (lv_at hl 2 rfl) ?_
                obtain ⟨z32, e32, hf⟩ := ob hf
                refine r_zald C hw e32 dX10_done_226 ?_
                refine lv_if_ne (tgt := 232) hx hb dX10_done_227 (by decide) (fun c33 => ?_) (fun c33 => ?_)
                · have hf := ie hf c33
                  refine lv_aload_n hx hb dX10_done_232 rfl (lv_at hl 0 rfl) ?_
                  obtain ⟨z34, e34, hf⟩ := ob hf
                  refine r_gR C hw e34 ck10 rfl (by decide) w1001 dX10_done_233 ?_
                  cases z34 with
                  | none =>
                    have hf := on_n hf
                    cases hf
                  | some a35 =>
                    have hf := on_s hf
                    refine W.eq (g2 := F0 m 236 ls [.ref a35]) rfl ?_
                    refine lv_iload_n hx hb dX10_done_236 rfl (lv_at hl 2 rfl) ?_
                    refine lv_iconst (v := (0 : Int32)) hx hb dX10_done_237 (by decide) ?_
                    obtain ⟨h36, e36, hf⟩ := ob hf
                    refine r_zast C hw e36 dX10_done_238 (fun H locs hw => ?_)
                    refine lv_aload_n hx hb dX10_done_239 rfl (lv_at hl 0 rfl) ?_
                    refine lv_iconst (v := (0 : Int32)) hx hb dX10_done_240 (by decide) ?_
                    refine lv_bipush (v := (63 : Int32)) hx hb dX10_done_241 (by decide) ?_
                    refine lv_iload_n hx hb dX10_done_243 rfl (lv_at hl 2 rfl) ?_
                    obtain ⟨kb37, hf⟩ := ig hf
                    obtain ⟨z37, h37, e37, hf⟩ := ob2 hf
                    refine r_callV C hw (mX10_removed e37) kXX10_removed ck10 rfl kb37 w1261 w1263 v57 ⟨Nat.le_of_ble_eq_true rfl, Nat.le_of_ble_eq_true rfl⟩ rfl hl.1 (rest := []) rfl (Nat.le_of_ble_eq_true rfl) dX10_done_244 (mc := 0) (ms := 0) rfl rfl ⟨by show _ + 0 ≤ 0; omega, by show _ + 0 ≤ 0; omega⟩ (fun H locs hw => ?_)
                    refine W.eq (g2 := F0 m 247 ls [.int z37]) rfl ?_
                    obtain ⟨rfl, rfl⟩ := sp hf
                    exact r_iret C hw rfl rfl (by omega) (by omega) dX10_done_247
                · have hf := ip hf c33
                  refine lv_iconst (v := (-1 : Int32)) hx hb dX10_done_230 (by decide) ?_
                  obtain ⟨rfl, rfl⟩ := sp hf
                  exact r_iret C hw rfl rfl (by omega) (by omega) dX10_done_231
            · have hf := ie hf n54
              by_cases n55 : x1 = (6 : Int32)
              · have hf := ip hf n55
                refine lv_tableIn (tgt := 248) (off := 247) hx hb dX10_done_1 (by rw [n55]; decide) (by rw [n55]; decide) (by rw [n55]; rfl) (by decide) ?_
                refine lv_aload_n hx hb dX10_done_248 rfl (lv_at hl 0 rfl) ?_
                obtain ⟨z38, e38, hf⟩ := ob hf
                refine r_gR C hw e38 ck10 rfl (by decide) w1001 dX10_done_249 ?_
                cases z38 with
                | none =>
                  have hf := on_n hf
                  cases hf
                | some a39 =>
                  have hf := on_s hf
                  refine W.eq (g2 := F0 m 252 ls [.ref a39]) rfl ?_
                  refine lv_iload_n hx hb dX10_done_252 rfl (lv_at hl 2 rfl) ?_
                  obtain ⟨z40, e40, hf⟩ := ob hf
                  refine r_zald C hw e40 dX10_done_253 ?_
                  refine lv_if_eq (tgt := 269) hx hb dX10_done_254 (by decide) (fun c41 => ?_) (fun c41 => ?_)
                  · have hf := ip hf c41
                    exact bX10_done_269 C hn _ _ _ _ hf _ _ _ _ _ (by omega) (by omega) hw (lv_sub hl [0, 2] rfl)
                  · have hf := ie hf c41
                    refine lv_aload_n hx hb dX10_done_257 rfl (lv_at hl 0 rfl) ?_
                    obtain ⟨z42, e42, hf⟩ := ob hf
                    refine r_gR C hw e42 ck10 rfl (by decide) w1002 dX10_done_258 ?_
                    cases z42 with
                    | none =>
                      have hf := on_n hf
                      cases hf
                    | some a43 =>
                      have hf := on_s hf
                      refine W.eq (g2 := F0 m 261 ls [.ref a43]) rfl ?_
                      refine lv_iload_n hx hb dX10_done_261 rfl (lv_at hl 2 rfl) ?_
                      refine lv_aload_n hx hb dX10_done_262 rfl (lv_at hl 0 rfl) ?_
                      obtain ⟨z44, e44, hf⟩ := ob hf
                      refine r_gI C hw e44 ck10 rfl (by decide) w1004 dX10_done_263 ?_
                      refine lv_iload_n hx hb dX10_done_266 rfl (lv_at hl 3 rfl) ?_
                      refine lv_iadd hx hb dX10_done_267 ?_
                      obtain ⟨h45, e45, hf⟩ := ob hf
                      refine r_iast C hw e45 dX10_done_268 (fun H locs hw => ?_)
                      exact bX10_done_269 C hn _ _ _ _ hf _ _ _ _ _ (by omega) (by omega) hw (lv_sub hl [0, 2] rfl)
              · have hf := ie hf n55
                by_cases n56 : x1 = (7 : Int32)
                · have hf := ip hf n56
                  refine lv_tableIn (tgt := 284) (off := 283) hx hb dX10_done_1 (by rw [n56]; decide) (by rw [n56]; decide) (by rw [n56]; rfl) (by decide) ?_
                  refine lv_aload_n hx hb dX10_done_284 rfl (lv_at hl 0 rfl) ?_
                  refine lv_dup hx hb dX10_done_285 rfl ?_
                  obtain ⟨z47, e47, hf⟩ := ob hf
                  refine r_gI C hw e47 ck10 rfl (by decide) w1004 dX10_done_286 ?_
                  refine lv_iconst (v := (1 : Int32)) hx hb dX10_done_289 (by decide) ?_
                  refine lv_iadd hx hb dX10_done_290 ?_
                  obtain ⟨h48, e48, hf⟩ := ob hf
                  refine r_pI C hw e48 ck10 rfl (by decide) rfl w1004 (Or.inl rfl) dX10_done_291 (fun H locs hw => ?_)
                  refine lv_iconst (v := (1 : Int32)) hx hb dX10_done_294 (by decide) ?_
                  refine lv_istore (lv' := [(8, .int (1 : Int32)), (0, .ref x0), (1, .int x1), (2, .int x2), (3, .int x3), (4, .int x4), (5, .int x5), (6, .int x6), (7, .int x7)]) hx hb dX10_done_295 hl (by decide) rfl (fun ls hl => ?_)
                  exact bX10_done_297 C hn LF _ _ _ _ hf _ _ _ _ _ (by omega) (by omega) hw (lv_sub hl [1, 0] rfl)
                · have hf := ie hf n56
                  refine lv_tableOut (tgt := 360) hx hb dX10_done_1 (tsw_out (x := x1) 0 [(0 : Int32), (1 : Int32), (2 : Int32), (3 : Int32), (4 : Int32), (5 : Int32), (6 : Int32), (7 : Int32)] (by decide) (List.forall_mem_cons.mpr ⟨n49, List.forall_mem_cons.mpr ⟨n50, List.forall_mem_cons.mpr ⟨n51, List.forall_mem_cons.mpr ⟨n52, List.forall_mem_cons.mpr ⟨n53, List.forall_mem_cons.mpr ⟨n54, List.forall_mem_cons.mpr ⟨n55, List.forall_mem_cons.mpr ⟨n56, fun _ h9 => absurd h9 List.not_mem_nil⟩⟩⟩⟩⟩⟩⟩⟩)) (by decide) ?_
                  refine lv_iload_n hx hb dX10_done_360 rfl (lv_at hl 2 rfl) ?_
                  refine lv_aload_n hx hb dX10_done_361 rfl (lv_at hl 0 rfl) ?_
                  obtain ⟨z1, e1, hf⟩ := ob hf
                  refine r_gI C hw e1 ck10 rfl (by decide) w1005 dX10_done_362 ?_
                  refine lv_icmp_le (tgt := 376) hx hb dX10_done_365 (by decide) (fun c2 => ?_) (fun c2 => ?_)
                  · have hf := ip hf c2
                    refine lv_iconst (v := (0 : Int32)) hx hb dX10_done_376 (by decide) ?_
                    obtain ⟨rfl, rfl⟩ := sp hf
                    exact r_iret C hw rfl rfl (by omega) (by omega) dX10_done_377
                  · have hf := ie hf c2
                    refine lv_iload_n hx hb dX10_done_368 rfl (lv_at hl 2 rfl) ?_
                    refine lv_aload_n hx hb dX10_done_369 rfl (lv_at hl 0 rfl) ?_
                    obtain ⟨z3, e3, hf⟩ := ob hf
                    refine r_gI C hw e3 ck10 rfl (by decide) w1003 dX10_done_370 ?_
                    refine lv_icmp_le (tgt := 378) hx hb dX10_done_373 (by decide) (fun c4 => ?_) (fun c4 => ?_)
                    · have hf := ip hf c4
                      refine lv_aload_n hx hb dX10_done_378 rfl (lv_at hl 0 rfl) ?_
                      refine lv_iload_n hx hb dX10_done_379 rfl (lv_at hl 2 rfl) ?_
                      obtain ⟨h5, e5, hf⟩ := ob hf
                      refine r_pI C hw e5 ck10 rfl (by decide) rfl w1005 (Or.inl rfl) dX10_done_380 (fun H locs hw => ?_)
                      refine lv_iconst (v := (1 : Int32)) hx hb dX10_done_383 (by decide) ?_
                      obtain ⟨rfl, rfl⟩ := sp hf
                      exact r_iret C hw rfl rfl (by omega) (by omega) dX10_done_384
                    · have hf := ie hf c4
                      refine lv_iconst (v := (0 : Int32)) hx hb dX10_done_376 (by decide) ?_
                      obtain ⟨rfl, rfl⟩ := sp hf
                      exact r_iret C hw rfl rfl (by omega) (by omega) dX10_done_377
theorem kXX10_done : MK yX10_done cX10_done 10 (some .int) 7 := ⟨w1252, w8, by decide +kernel⟩
theorem mX10_done {D : va_G} {cy : Nat → ClassId} {s0 : Nat} {l : Launch} {x0 : Nat} {x1 : Int32} {x2 : Int32} {x3 : Int32} {x4 : Int32} {x5 : Int32} {x6 : Int32} {x7 : Int32} {h : Hp} {v : Int32} {h1 : Hp} (hf : fX10_done x0 x1 x2 x3 x4 x5 x6 x7 h = some (v, h1)) : MT D cy s0 l yX10_done cX10_done 10 (some .int) rX10_done [.ref x0, .int x1, .int x2, .int x3, .int x4, .int x5, .int x6, .int x7] h (some (.int v)) h1 := by
  refine MT.of (by decide +kernel) (Nat.le_of_ble_eq_true rfl) ?_
  intro p e s m below meth c H locs ls C hn hw hl
  exact bX10_done C hn _ _ _ _ _ _ _ _ _ _ hf _ _ _ _ _ (Nat.le_of_ble_eq_true rfl) (Nat.le_of_ble_eq_true rfl) hw hl
abbrev rX10_firstEvent : Room := { frames := 0, cells := 0, slots := 0, locals := 0 }
abbrev pX10_firstEvent_2 (D : va_G) (cy : Nat → ClassId) (s0 : Nat) (p : Program) (l : Launch) (e : Env) (s : State) (m : MethodId) (args : Array Value) (below : List Frame) (meth : Method) (c : Code) (r : Int32 × Hp) (x0 : Nat) (x1 : Int32) (h : Hp) : Prop := ∀ (H : Heap) (locs : List Loc) (ls : Array Slot) (cells slots : Nat), cells + (0) ≤ 0 → slots + (0) ≤ 0 → WS D cy s0 s h H locs → lv_has ls 2 [(0, .ref x0), (1, .int x1)] → W p l e rX10_firstEvent s m args below meth c H locs cells slots (MQ below (QQ D cy s0 (some (.int r.1)) r.2) args s 0 0 (fun q => s0 ≤ q)) (F0 m 2 ls [])
abbrev pX10_firstEvent (D : va_G) (cy : Nat → ClassId) (s0 : Nat) (p : Program) (l : Launch) (e : Env) (s : State) (m : MethodId) (args : Array Value) (below : List Frame) (meth : Method) (c : Code) (r : Int32 × Hp) (x0 : Nat) (h : Hp) : Prop := ∀ (H : Heap) (locs : List Loc) (ls : Array Slot) (cells slots : Nat), cells + (0) ≤ 0 → slots + (0) ≤ 0 → WS D cy s0 s h H locs → lv_has ls 2 [(0, .ref x0)] → W p l e rX10_firstEvent s m args below meth c H locs cells slots (MQ below (QQ D cy s0 (some (.int r.1)) r.2) args s 0 0 (fun q => s0 ≤ q)) (F0 m 0 ls [])
set_option maxRecDepth 100000 in
set_option maxHeartbeats 4000000 in
theorem bX10_firstEvent_2_body {D : va_G} {cy : Nat → ClassId} {s0 : Nat} {p : Program} {l : Launch} {e : Env} {s : State} {m : MethodId} {args : Array Value} {below : List Frame} {meth : Method} {c : Code} (C : CX D cy s0 p s m args meth c cX10_firstEvent 2 RX10 (some .int)) (hn : meth.name = "firstEvent") {k2 : Nat → Int32 → Hp → Option (Int32 × Hp)} (hk2 : ∀ (x0 : Nat) (x1 : Int32) (h : Hp) (r : Int32 × Hp), k2 x0 x1 h = some r → pX10_firstEvent_2 D cy s0 p l e s m args below meth c r x0 x1 h) : ∀ (x0 : Nat) (x1 : Int32) (h : Hp) (r : Int32 × Hp), fX10_firstEvent_2_body k2 x0 x1 h = some r → pX10_firstEvent_2 D cy s0 p l e s m args below meth c r x0 x1 h := by
  intro x0 x1 h ⟨rv, rh⟩ hf H locs ls cells slots hc hs hw hl
  unfold fX10_firstEvent_2_body at hf
  have hx := C.1
  have hb := C.2.1
  refine lv_iload_n hx hb dX10_firstEvent_2 rfl (lv_at hl 1 rfl) ?_
  refine lv_aload_n hx hb dX10_firstEvent_3 rfl (lv_at hl 0 rfl) ?_
  obtain ⟨z1, e1, hf⟩ := ob hf
  refine r_gI C hw e1 ck10 rfl (by decide) w1010 dX10_firstEvent_4 ?_
  refine lv_icmp_ge (tgt := 29) hx hb dX10_firstEvent_7 (by decide) (fun c2 => ?_) (fun c2 => ?_)
  · have hf := ip hf c2
    refine lv_iload_n hx hb dX10_firstEvent_29 rfl (lv_at hl 1 rfl) ?_
    obtain ⟨rfl, rfl⟩ := sp hf
    exact r_iret C hw rfl rfl (by omega) (by omega) dX10_firstEvent_30
  · have hf := ie hf c2
    refine lv_aload_n hx hb dX10_firstEvent_10 rfl (lv_at hl 0 rfl) ?_
    obtain ⟨z3, e3, hf⟩ := ob hf
    refine r_gR C hw e3 ck10 rfl (by decide) w1006 dX10_firstEvent_11 ?_
    cases z3 with
    | none =>
      have hf := on_n hf
      cases hf
    | some a4 =>
      have hf := on_s hf
      refine W.eq (g2 := F0 m 14 ls [.ref a4]) rfl ?_
      refine lv_iload_n hx hb dX10_firstEvent_14 rfl (lv_at hl 1 rfl) ?_
      obtain ⟨z5, e5, hf⟩ := ob hf
      refine r_iald C hw e5 dX10_firstEvent_15 ?_
      refine lv_aload_n hx hb dX10_firstEvent_16 rfl (lv_at hl 0 rfl) ?_
      obtain ⟨z6, e6, hf⟩ := ob hf
      refine r_gI C hw e6 ck10 rfl (by decide) w1005 dX10_firstEvent_17 ?_
      refine lv_icmp_gt (tgt := 29) hx hb dX10_firstEvent_20 (by decide) (fun c7 => ?_) (fun c7 => ?_)
      · have hf := ip hf c7
        refine lv_iload_n hx hb dX10_firstEvent_29 rfl (lv_at hl 1 rfl) ?_
        obtain ⟨rfl, rfl⟩ := sp hf
        exact r_iret C hw rfl rfl (by omega) (by omega) dX10_firstEvent_30
      · have hf := ie hf c7
        refine lv_iinc (v := (x1 + (1 : Int32))) (lv' := [(1, .int (x1 + (1 : Int32))), (0, .ref x0)]) hx hb dX10_firstEvent_23 hl (k := 1) rfl rfl (by decide) rfl (fun ls hl => ?_)
        refine lv_goto (tgt := 2) hx hb dX10_firstEvent_26 (by decide) ?_
        exact hk2 _ _ _ _ hf _ _ _ _ _ (by omega) (by omega) hw (lv_sub hl [1, 0] rfl)
set_option maxRecDepth 100000 in
set_option maxHeartbeats 4000000 in
theorem bX10_firstEvent_2 {D : va_G} {cy : Nat → ClassId} {s0 : Nat} {p : Program} {l : Launch} {e : Env} {s : State} {m : MethodId} {args : Array Value} {below : List Frame} {meth : Method} {c : Code} (C : CX D cy s0 p s m args meth c cX10_firstEvent 2 RX10 (some .int)) (hn : meth.name = "firstEvent") : ∀ (n : Nat) (x0 : Nat) (x1 : Int32) (h : Hp) (r : Int32 × Hp), fX10_firstEvent_2 n x0 x1 h = some r → pX10_firstEvent_2 D cy s0 p l e s m args below meth c r x0 x1 h := by
  intro n
  induction n with
  | zero => intro x0 x1 h r hf; exact absurd hf (fun q => by cases q)
  | succ n ih => exact bX10_firstEvent_2_body C hn ih
set_option maxRecDepth 100000 in
set_option maxHeartbeats 4000000 in
theorem bX10_firstEvent {D : va_G} {cy : Nat → ClassId} {s0 : Nat} {p : Program} {l : Launch} {e : Env} {s : State} {m : MethodId} {args : Array Value} {below : List Frame} {meth : Method} {c : Code} (C : CX D cy s0 p s m args meth c cX10_firstEvent 2 RX10 (some .int)) (hn : meth.name = "firstEvent") : ∀ (x0 : Nat) (h : Hp) (r : Int32 × Hp), fX10_firstEvent x0 h = some r → pX10_firstEvent D cy s0 p l e s m args below meth c r x0 h := by
  intro x0 h ⟨rv, rh⟩ hf H locs ls cells slots hc hs hw hl
  unfold fX10_firstEvent at hf
  have hx := C.1
  have hb := C.2.1
  refine lv_iconst (v := (0 : Int32)) hx hb dX10_firstEvent_0 (by decide) ?_
  refine lv_istore_n (lv' := [(1, .int (0 : Int32)), (0, .ref x0)]) hx hb dX10_firstEvent_1 rfl hl (by decide) rfl (fun ls hl => ?_)
  exact bX10_firstEvent_2 C hn LF _ _ _ _ hf _ _ _ _ _ (by omega) (by omega) hw (lv_sub hl [1, 0] rfl)
theorem kXX10_firstEvent : MK yX10_firstEvent cX10_firstEvent 2 (some .int) 0 := ⟨w1276, w8, by decide +kernel⟩
theorem mX10_firstEvent {D : va_G} {cy : Nat → ClassId} {s0 : Nat} {l : Launch} {x0 : Nat} {h : Hp} {v : Int32} {h1 : Hp} (hf : fX10_firstEvent x0 h = some (v, h1)) : MT D cy s0 l yX10_firstEvent cX10_firstEvent 2 (some .int) rX10_firstEvent [.ref x0] h (some (.int v)) h1 := by
  refine MT.of (by decide +kernel) (Nat.le_of_ble_eq_true rfl) ?_
  intro p e s m below meth c H locs ls C hn hw hl
  exact bX10_firstEvent C hn _ _ _ hf _ _ _ _ _ (Nat.le_of_ble_eq_true rfl) (Nat.le_of_ble_eq_true rfl) hw hl
