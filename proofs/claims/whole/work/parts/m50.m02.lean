abbrev rX10_accepted : Room := { frames := 3, cells := 0, slots := 0, locals := 69 }
abbrev pX10_accepted_130 (D : va_G) (cy : Nat → ClassId) (s0 : Nat) (p : Program) (l : Launch) (e : Env) (s : State) (m : MethodId) (args : Array Value) (below : List Frame) (meth : Method) (c : Code) (r : Unit × Hp) (x0 : Nat) (x1 : Int32) (x2 : Int32) (x4 : Int32) (x5 : Int32) (x6 : Int32) (h : Hp) : Prop := ∀ (H : Heap) (locs : List Loc) (ls : Array Slot) (cells slots : Nat), cells + (0) ≤ 0 → slots + (0) ≤ 0 → WS D cy s0 s h H locs → lv_has ls 9 [(0, .ref x0), (1, .int x1), (2, .int x2), (4, .int x4), (5, .int x5), (6, .int x6)] → W p l e rX10_accepted s m args below meth c H locs cells slots (MQ below (QQ D cy s0 none r.2) args s 0 0 (fun q => s0 ≤ q)) (F0 m 130 ls [])
abbrev pX10_accepted_98 (D : va_G) (cy : Nat → ClassId) (s0 : Nat) (p : Program) (l : Launch) (e : Env) (s : State) (m : MethodId) (args : Array Value) (below : List Frame) (meth : Method) (c : Code) (r : Unit × Hp) (x0 : Nat) (x1 : Int32) (x2 : Int32) (x4 : Int32) (x5 : Int32) (x6 : Int32) (x7 : Int32) (x8 : Int32) (h : Hp) : Prop := ∀ (H : Heap) (locs : List Loc) (ls : Array Slot) (cells slots : Nat), cells + (0) ≤ 0 → slots + (0) ≤ 0 → WS D cy s0 s h H locs → lv_has ls 9 [(0, .ref x0), (1, .int x1), (2, .int x2), (4, .int x4), (5, .int x5), (6, .int x6), (7, .int x7), (8, .int x8)] → W p l e rX10_accepted s m args below meth c H locs cells slots (MQ below (QQ D cy s0 none r.2) args s 0 0 (fun q => s0 ≤ q)) (F0 m 98 ls [])
abbrev pX10_accepted_67 (D : va_G) (cy : Nat → ClassId) (s0 : Nat) (p : Program) (l : Launch) (e : Env) (s : State) (m : MethodId) (args : Array Value) (below : List Frame) (meth : Method) (c : Code) (r : Unit × Hp) (x0 : Nat) (x1 : Int32) (x2 : Int32) (x4 : Int32) (x5 : Int32) (x6 : Int32) (x7 : Int32) (x8 : Int32) (h : Hp) : Prop := ∀ (H : Heap) (locs : List Loc) (ls : Array Slot) (cells slots : Nat), cells + (0) ≤ 0 → slots + (0) ≤ 0 → WS D cy s0 s h H locs → lv_has ls 9 [(0, .ref x0), (1, .int x1), (2, .int x2), (4, .int x4), (5, .int x5), (6, .int x6), (7, .int x7), (8, .int x8)] → W p l e rX10_accepted s m args below meth c H locs cells slots (MQ below (QQ D cy s0 none r.2) args s 0 0 (fun q => s0 ≤ q)) (F0 m 67 ls [])
abbrev pX10_accepted_50 (D : va_G) (cy : Nat → ClassId) (s0 : Nat) (p : Program) (l : Launch) (e : Env) (s : State) (m : MethodId) (args : Array Value) (below : List Frame) (meth : Method) (c : Code) (r : Unit × Hp) (x0 : Nat) (x1 : Int32) (x2 : Int32) (x4 : Int32) (x5 : Int32) (x6 : Int32) (h : Hp) : Prop := ∀ (H : Heap) (locs : List Loc) (ls : Array Slot) (cells slots : Nat), cells + (0) ≤ 0 → slots + (0) ≤ 0 → WS D cy s0 s h H locs → lv_has ls 9 [(0, .ref x0), (1, .int x1), (2, .int x2), (4, .int x4), (5, .int x5), (6, .int x6)] → W p l e rX10_accepted s m args below meth c H locs cells slots (MQ below (QQ D cy s0 none r.2) args s 0 0 (fun q => s0 ≤ q)) (F0 m 50 ls [])
abbrev pX10_accepted_36 (D : va_G) (cy : Nat → ClassId) (s0 : Nat) (p : Program) (l : Launch) (e : Env) (s : State) (m : MethodId) (args : Array Value) (below : List Frame) (meth : Method) (c : Code) (r : Unit × Hp) (x0 : Nat) (x1 : Int32) (x2 : Int32) (x4 : Int32) (h : Hp) : Prop := ∀ (H : Heap) (locs : List Loc) (ls : Array Slot) (cells slots : Nat), cells + (0) ≤ 0 → slots + (0) ≤ 0 → WS D cy s0 s h H locs → lv_has ls 9 [(0, .ref x0), (1, .int x1), (2, .int x2), (4, .int x4)] → W p l e rX10_accepted s m args below meth c H locs cells slots (MQ below (QQ D cy s0 none r.2) args s 0 0 (fun q => s0 ≤ q)) (F0 m 36 ls [])
abbrev pX10_accepted (D : va_G) (cy : Nat → ClassId) (s0 : Nat) (p : Program) (l : Launch) (e : Env) (s : State) (m : MethodId) (args : Array Value) (below : List Frame) (meth : Method) (c : Code) (r : Unit × Hp) (x0 : Nat) (x1 : Int32) (x2 : Int32) (x3 : Int32) (h : Hp) : Prop := ∀ (H : Heap) (locs : List Loc) (ls : Array Slot) (cells slots : Nat), cells + (0) ≤ 0 → slots + (0) ≤ 0 → WS D cy s0 s h H locs → lv_has ls 9 [(0, .ref x0), (1, .int x1), (2, .int x2), (3, .int x3)] → W p l e rX10_accepted s m args below meth c H locs cells slots (MQ below (QQ D cy s0 none r.2) args s 0 0 (fun q => s0 ≤ q)) (F0 m 0 ls [])
set_option maxRecDepth 100000 in
set_option maxHeartbeats 4000000 in
theorem bX10_accepted_130 {D : va_G} {cy : Nat → ClassId} {s0 : Nat} {p : Program} {l : Launch} {e : Env} {s : State} {m : MethodId} {args : Array Value} {below : List Frame} {meth : Method} {c : Code} (C : CX D cy s0 p s m args meth c cX10_accepted 9 RX10 none) (hn : meth.name = "accepted") {k50 : Nat → Int32 → Int32 → Int32 → Int32 → Int32 → Hp → Option (Unit × Hp)} (hk50 : ∀ (x0 : Nat) (x1 : Int32) (x2 : Int32) (x4 : Int32) (x5 : Int32) (x6 : Int32) (h : Hp) (r : Unit × Hp), k50 x0 x1 x2 x4 x5 x6 h = some r → pX10_accepted_50 D cy s0 p l e s m args below meth c r x0 x1 x2 x4 x5 x6 h) : ∀ (x0 : Nat) (x1 : Int32) (x2 : Int32) (x4 : Int32) (x5 : Int32) (x6 : Int32) (h : Hp) (r : Unit × Hp), fX10_accepted_130 k50 x0 x1 x2 x4 x5 x6 h = some r → pX10_accepted_130 D cy s0 p l e s m args below meth c r x0 x1 x2 x4 x5 x6 h := by
  intro x0 x1 x2 x4 x5 x6 h ⟨rv, rh⟩ hf H locs ls cells slots hc hs hw hl
  unfold fX10_accepted_130 at hf
  have hx := C.1
  have hb := C.2.1
  refine lv_iinc (v := (x6 + (1 : Int32))) (lv' := [(6, .int (x6 + (1 : Int32))), (0, .ref x0), (1, .int x1), (2, .int x2), (4, .int x4), (5, .int x5)]) hx hb dX10_accepted_130 hl (k := 5) rfl rfl (by decide) rfl (fun ls hl => ?_)
  refine lv_goto (tgt := 50) hx hb dX10_accepted_133 (by decide) ?_
  exact hk50 _ _ _ _ _ _ _ _ hf _ _ _ _ _ (by omega) (by omega) hw (lv_sub hl [1, 2, 3, 4, 5, 0] rfl)
set_option maxRecDepth 100000 in
set_option maxHeartbeats 4000000 in
theorem bX10_accepted_98 {D : va_G} {cy : Nat → ClassId} {s0 : Nat} {p : Program} {l : Launch} {e : Env} {s : State} {m : MethodId} {args : Array Value} {below : List Frame} {meth : Method} {c : Code} (C : CX D cy s0 p s m args meth c cX10_accepted 9 RX10 none) (hn : meth.name = "accepted") {k67 : Nat → Int32 → Int32 → Int32 → Int32 → Int32 → Int32 → Int32 → Hp → Option (Unit × Hp)} (hk67 : ∀ (x0 : Nat) (x1 : Int32) (x2 : Int32) (x4 : Int32) (x5 : Int32) (x6 : Int32) (x7 : Int32) (x8 : Int32) (h : Hp) (r : Unit × Hp), k67 x0 x1 x2 x4 x5 x6 x7 x8 h = some r → pX10_accepted_67 D cy s0 p l e s m args below meth c r x0 x1 x2 x4 x5 x6 x7 x8 h) : ∀ (x0 : Nat) (x1 : Int32) (x2 : Int32) (x4 : Int32) (x5 : Int32) (x6 : Int32) (x7 : Int32) (x8 : Int32) (h : Hp) (r : Unit × Hp), fX10_accepted_98 k67 x0 x1 x2 x4 x5 x6 x7 x8 h = some r → pX10_accepted_98 D cy s0 p l e s m args below meth c r x0 x1 x2 x4 x5 x6 x7 x8 h := by
  intro x0 x1 x2 x4 x5 x6 x7 x8 h ⟨rv, rh⟩ hf H locs ls cells slots hc hs hw hl
  unfold fX10_accepted_98 at hf
  have hx := C.1
  have hb := C.2.1
  refine lv_iinc (v := (x8 + (1 : Int32))) (lv' := [(8, .int (x8 + (1 : Int32))), (0, .ref x0), (1, .int x1), (2, .int x2), (4, .int x4), (5, .int x5), (6, .int x6), (7, .int x7)]) hx hb dX10_accepted_98 hl (k := 7) rfl rfl (by decide) rfl (fun ls hl => ?_)
  refine lv_goto (tgt := 67) hx hb dX10_accepted_101 (by decide) ?_
  exact hk67 _ _ _ _ _ _ _ _ _ _ hf _ _ _ _ _ (by omega) (by omega) hw (lv_sub hl [1, 2, 3, 4, 5, 6, 7, 0] rfl)
set_option maxRecDepth 100000 in
set_option maxHeartbeats 4000000 in
theorem bX10_accepted_67_body {D : va_G} {cy : Nat → ClassId} {s0 : Nat} {p : Program} {l : Launch} {e : Env} {s : State} {m : MethodId} {args : Array Value} {below : List Frame} {meth : Method} {c : Code} (C : CX D cy s0 p s m args meth c cX10_accepted 9 RX10 none) (hn : meth.name = "accepted") {k50 : Nat → Int32 → Int32 → Int32 → Int32 → Int32 → Hp → Option (Unit × Hp)} (hk50 : ∀ (x0 : Nat) (x1 : Int32) (x2 : Int32) (x4 : Int32) (x5 : Int32) (x6 : Int32) (h : Hp) (r : Unit × Hp), k50 x0 x1 x2 x4 x5 x6 h = some r → pX10_accepted_50 D cy s0 p l e s m args below meth c r x0 x1 x2 x4 x5 x6 h) {k67 : Nat → Int32 → Int32 → Int32 → Int32 → Int32 → Int32 → Int32 → Hp → Option (Unit × Hp)} (hk67 : ∀ (x0 : Nat) (x1 : Int32) (x2 : Int32) (x4 : Int32) (x5 : Int32) (x6 : Int32) (x7 : Int32) (x8 : Int32) (h : Hp) (r : Unit × Hp), k67 x0 x1 x2 x4 x5 x6 x7 x8 h = some r → pX10_accepted_67 D cy s0 p l e s m args below meth c r x0 x1 x2 x4 x5 x6 x7 x8 h) : ∀ (x0 : Nat) (x1 : Int32) (x2 : Int32) (x4 : Int32) (x5 : Int32) (x6 : Int32) (x7 : Int32) (x8 : Int32) (h : Hp) (r : Unit × Hp), fX10_accepted_67_body k50 k67 x0 x1 x2 x4 x5 x6 x7 x8 h = some r → pX10_accepted_67 D cy s0 p l e s m args below meth c r x0 x1 x2 x4 x5 x6 x7 x8 h := by
  intro x0 x1 x2 x4 x5 x6 x7 x8 h ⟨rv, rh⟩ hf H locs ls cells slots hc hs hw hl
  unfold fX10_accepted_67_body at hf
  have hx := C.1
  have hb := C.2.1
  refine lv_iload hx hb dX10_accepted_67 (lv_at hl 7 rfl) ?_
  refine lv_iconst (v := (5 : Int32)) hx hb dX10_accepted_69 (by decide) ?_
  refine lv_icmp_ge (tgt := 104) hx hb dX10_accepted_70 (by decide) (fun c1 => ?_) (fun c1 => ?_)
  · have hf := ip hf c1
    refine lv_iload hx hb dX10_accepted_104 (lv_at hl 6 rfl) ?_
    refine lv_iconst (v := (2 : Int32)) hx hb dX10_accepted_106 (by decide) ?_
    refine lv_icmp_lt (tgt := 130) hx hb dX10_accepted_107 (by decide) (fun c2 => ?_) (fun c2 => ?_)
    · have hf := ip hf c2
      exact bX10_accepted_130 C hn hk50 _ _ _ _ _ _ _ _ hf _ _ _ _ _ (by omega) (by omega) hw (lv_sub hl [0, 1, 2, 3, 4, 5] rfl)
    · have hf := ie hf c2
      refine lv_aload_n hx hb dX10_accepted_110 rfl (lv_at hl 0 rfl) ?_
      refine lv_iload_n hx hb dX10_accepted_111 rfl (lv_at hl 1 rfl) ?_
      refine lv_iload hx hb dX10_accepted_112 (lv_at hl 5 rfl) ?_
      obtain ⟨kb3, hf⟩ := ig hf
      obtain ⟨z3, h3, e3, hf⟩ := ob2 hf
      refine r_callV C hw (mX10_termAt e3) kXX10_termAt ck10 rfl kb3 w1148 w1150 v39 ⟨Nat.le_of_ble_eq_true rfl, Nat.le_of_ble_eq_true rfl⟩ rfl hl.1 (rest := []) rfl (Nat.le_of_ble_eq_true rfl) dX10_accepted_114 (mc := 0) (ms := 0) rfl rfl ⟨by show _ + 0 ≤ 0; omega, by show _ + 0 ≤ 0; omega⟩ (fun H locs hw => ?_)
      refine W.eq (g2 := F0 m 117 ls [.int z3]) rfl ?_
      refine lv_aload_n hx hb dX10_accepted_117 rfl (lv_at hl 0 rfl) ?_
      obtain ⟨z4, e4, hf⟩ := ob hf
      refine r_gR C hw e4 ck10 rfl (by decide) w965 dX10_accepted_118 ?_
      cases z4 with
      | none =>
        have hf := on_n hf
        cases hf
      | some a5 =>
        have hf := on_s hf
        refine W.eq (g2 := F0 m 121 ls [.ref a5, .int z3]) rfl ?_
        refine lv_iload_n hx hb dX10_accepted_121 rfl (lv_at hl 1 rfl) ?_
        obtain ⟨z6, e6, hf⟩ := ob hf
        refine r_iald C hw e6 dX10_accepted_122 ?_
        refine lv_icmp_ne (tgt := 130) hx hb dX10_accepted_123 (by decide) (fun c7 => ?_) (fun c7 => ?_)
        · have hf := ie hf c7
          exact bX10_accepted_130 C hn hk50 _ _ _ _ _ _ _ _ hf _ _ _ _ _ (by omega) (by omega) hw (lv_sub hl [0, 1, 2, 3, 4, 5] rfl)
        · have hf := ip hf c7
          refine lv_iload hx hb dX10_accepted_126 (lv_at hl 5 rfl) ?_
          refine lv_istore (lv' := [(5, .int x6), (0, .ref x0), (1, .int x1), (2, .int x2), (4, .int x4), (6, .int x6), (7, .int x7), (8, .int x8)]) hx hb dX10_accepted_128 hl (by decide) rfl (fun ls hl => ?_)
          exact bX10_accepted_130 C hn hk50 _ _ _ _ _ _ _ _ hf _ _ _ _ _ (by omega) (by omega) hw (lv_sub hl [1, 2, 3, 4, 0, 5] rfl)
  · have hf := ie hf c1
    refine lv_iload hx hb dX10_accepted_73 (lv_at hl 7 rfl) ?_
    refine lv_iload_n hx hb dX10_accepted_75 rfl (lv_at hl 1 rfl) ?_
    refine lv_icmp_eq (tgt := 98) hx hb dX10_accepted_76 (by decide) (fun c8 => ?_) (fun c8 => ?_)
    · have hf := ip hf c8
      exact bX10_accepted_98 C hn hk67 _ _ _ _ _ _ _ _ _ _ hf _ _ _ _ _ (by omega) (by omega) hw (lv_sub hl [0, 1, 2, 3, 4, 5, 6, 7] rfl)
    · have hf := ie hf c8
      refine lv_aload_n hx hb dX10_accepted_79 rfl (lv_at hl 0 rfl) ?_
      obtain ⟨z9, e9, hf⟩ := ob hf
      refine r_gR C hw e9 ck10 rfl (by decide) w975 dX10_accepted_80 ?_
      cases z9 with
      | none =>
        have hf := on_n hf
        cases hf
      | some a10 =>
        have hf := on_s hf
        refine W.eq (g2 := F0 m 83 ls [.ref a10]) rfl ?_
        refine lv_iconst (v := (5 : Int32)) hx hb dX10_accepted_83 (by decide) ?_
        refine lv_iload_n hx hb dX10_accepted_84 rfl (lv_at hl 1 rfl) ?_
        refine lv_imul hx hb dX10_accepted_85 ?_
        refine lv_iload hx hb dX10_accepted_86 (lv_at hl 7 rfl) ?_
        refine lv_iadd hx hb dX10_accepted_88 ?_
        obtain ⟨z11, e11, hf⟩ := ob hf
        refine r_iald C hw e11 dX10_accepted_89 ?_
        refine lv_iload hx hb dX10_accepted_90 (lv_at hl 5 rfl) ?_
        refine lv_icmp_lt (tgt := 98) hx hb dX10_accepted_92 (by decide) (fun c12 => ?_) (fun c12 => ?_)
        · have hf := ip hf c12
          exact bX10_accepted_98 C hn hk67 _ _ _ _ _ _ _ _ _ _ hf _ _ _ _ _ (by omega) (by omega) hw (lv_sub hl [0, 1, 2, 3, 4, 5, 6, 7] rfl)
        · have hf := ie hf c12
          refine lv_iinc (v := (x7 + (1 : Int32))) (lv' := [(7, .int (x7 + (1 : Int32))), (0, .ref x0), (1, .int x1), (2, .int x2), (4, .int x4), (5, .int x5), (6, .int x6), (8, .int x8)]) hx hb dX10_accepted_95 hl (k := 6) rfl rfl (by decide) rfl (fun ls hl => ?_)
          exact bX10_accepted_98 C hn hk67 _ _ _ _ _ _ _ _ _ _ hf _ _ _ _ _ (by omega) (by omega) hw (lv_sub hl [1, 2, 3, 4, 5, 6, 0, 7] rfl)
set_option maxRecDepth 100000 in
set_option maxHeartbeats 4000000 in
theorem bX10_accepted_67 {D : va_G} {cy : Nat → ClassId} {s0 : Nat} {p : Program} {l : Launch} {e : Env} {s : State} {m : MethodId} {args : Array Value} {below : List Frame} {meth : Method} {c : Code} (C : CX D cy s0 p s m args meth c cX10_accepted 9 RX10 none) (hn : meth.name = "accepted") {k50 : Nat → Int32 → Int32 → Int32 → Int32 → Int32 → Hp → Option (Unit × Hp)} (hk50 : ∀ (x0 : Nat) (x1 : Int32) (x2 : Int32) (x4 : Int32) (x5 : Int32) (x6 : Int32) (h : Hp) (r : Unit × Hp), k50 x0 x1 x2 x4 x5 x6 h = some r → pX10_accepted_50 D cy s0 p l e s m args below meth c r x0 x1 x2 x4 x5 x6 h) : ∀ (n : Nat) (x0 : Nat) (x1 : Int32) (x2 : Int32) (x4 : Int32) (x5 : Int32) (x6 : Int32) (x7 : Int32) (x8 : Int32) (h : Hp) (r : Unit × Hp), fX10_accepted_67 k50 n x0 x1 x2 x4 x5 x6 x7 x8 h = some r → pX10_accepted_67 D cy s0 p l e s m args below meth c r x0 x1 x2 x4 x5 x6 x7 x8 h := by
  intro n
  induction n with
  | zero => intro x0 x1 x2 x4 x5 x6 x7 x8 h r hf; exact absurd hf (fun q => by cases q)
  | succ n ih => exact bX10_accepted_67_body C hn hk50 ih
set_option maxRecDepth 100000 in
set_option maxHeartbeats 4000000 in
theorem bX10_accepted_50_body {D : va_G} {cy : Nat → ClassId} {s0 : Nat} {p : Program} {l : Launch} {e : Env} {s : State} {m : MethodId} {args : Array Value} {below : List Frame} {meth : Method} {c : Code} (C : CX D cy s0 p s m args meth c cX10_accepted 9 RX10 none) (hn : meth.name = "accepted") {k50 : Nat → Int32 → Int32 → Int32 → Int32 → Int32 → Hp → Option (Unit × Hp)} (hk50 : ∀ (x0 : Nat) (x1 : Int32) (x2 : Int32) (x4 : Int32) (x5 : Int32) (x6 : Int32) (h : Hp) (r : Unit × Hp), k50 x0 x1 x2 x4 x5 x6 h = some r → pX10_accepted_50 D cy s0 p l e s m args below meth c r x0 x1 x2 x4 x5 x6 h) : ∀ (x0 : Nat) (x1 : Int32) (x2 : Int32) (x4 : Int32) (x5 : Int32) (x6 : Int32) (h : Hp) (r : Unit × Hp), fX10_accepted_50_body k50 x0 x1 x2 x4 x5 x6 h = some r → pX10_accepted_50 D cy s0 p l e s m args below meth c r x0 x1 x2 x4 x5 x6 h := by
  intro x0 x1 x2 x4 x5 x6 h ⟨rv, rh⟩ hf H locs ls cells slots hc hs hw hl
  unfold fX10_accepted_50_body at hf
  have hx := C.1
  have hb := C.2.1
  refine lv_iload hx hb dX10_accepted_50 (lv_at hl 5 rfl) ?_
  refine lv_aload_n hx hb dX10_accepted_52 rfl (lv_at hl 0 rfl) ?_
  obtain ⟨z1, e1, hf⟩ := ob hf
  refine r_gR C hw e1 ck10 rfl (by decide) w968 dX10_accepted_53 ?_
  cases z1 with
  | none =>
    have hf := on_n hf
    cases hf
  | some a2 =>
    have hf := on_s hf
    refine W.eq (g2 := F0 m 56 ls [.ref a2, .int x6]) rfl ?_
    refine lv_iload_n hx hb dX10_accepted_56 rfl (lv_at hl 1 rfl) ?_
    obtain ⟨z3, e3, hf⟩ := ob hf
    refine r_iald C hw e3 dX10_accepted_57 ?_
    refine lv_icmp_gt (tgt := 136) hx hb dX10_accepted_58 (by decide) (fun c4 => ?_) (fun c4 => ?_)
    · have hf := ip hf c4
      refine lv_aload_n hx hb dX10_accepted_136 rfl (lv_at hl 0 rfl) ?_
      obtain ⟨z5, e5, hf⟩ := ob hf
      refine r_gR C hw e5 ck10 rfl (by decide) w969 dX10_accepted_137 ?_
      cases z5 with
      | none =>
        have hf := on_n hf
        cases hf
      | some a6 =>
        have hf := on_s hf
        refine W.eq (g2 := F0 m 140 ls [.ref a6]) rfl ?_
        refine lv_iload_n hx hb dX10_accepted_140 rfl (lv_at hl 1 rfl) ?_
        refine lv_iload hx hb dX10_accepted_141 (lv_at hl 4 rfl) ?_
        obtain ⟨h7, e7, hf⟩ := ob hf
        refine r_iast C hw e7 dX10_accepted_143 (fun H locs hw => ?_)
        refine lv_aload_n hx hb dX10_accepted_144 rfl (lv_at hl 0 rfl) ?_
        obtain ⟨z8, e8, hf⟩ := ob hf
        refine r_gR C hw e8 ck10 rfl (by decide) w974 dX10_accepted_145 ?_
        cases z8 with
        | none =>
          have hf := on_n hf
          cases hf
        | some a9 =>
          have hf := on_s hf
          refine W.eq (g2 := F0 m 148 ls [.ref a9]) rfl ?_
          refine lv_iload hx hb dX10_accepted_148 (lv_at hl 3 rfl) ?_
          obtain ⟨z10, e10, hf⟩ := ob hf
          refine r_iald C hw e10 dX10_accepted_150 ?_
          refine lv_aload_n hx hb dX10_accepted_151 rfl (lv_at hl 0 rfl) ?_
          obtain ⟨z11, e11, hf⟩ := ob hf
          refine r_gR C hw e11 ck10 rfl (by decide) w968 dX10_accepted_152 ?_
          cases z11 with
          | none =>
            have hf := on_n hf
            cases hf
          | some a12 =>
            have hf := on_s hf
            refine W.eq (g2 := F0 m 155 ls [.ref a12, .int z10]) rfl ?_
            refine lv_iload_n hx hb dX10_accepted_155 rfl (lv_at hl 1 rfl) ?_
            obtain ⟨z13, e13, hf⟩ := ob hf
            refine r_iald C hw e13 dX10_accepted_156 ?_
            refine lv_icmp_gt (tgt := 166) hx hb dX10_accepted_157 (by decide) (fun c14 => ?_) (fun c14 => ?_)
            · have hf := ip hf c14
              obtain ⟨rfl, rfl⟩ := sp hf
              exact r_vret C hw rfl (by omega) (by omega) dX10_accepted_166
            · have hf := ie hf c14
              refine lv_aload_n hx hb dX10_accepted_160 rfl (lv_at hl 0 rfl) ?_
              refine lv_iload_n hx hb dX10_accepted_161 rfl (lv_at hl 1 rfl) ?_
              refine lv_iload_n hx hb dX10_accepted_162 rfl (lv_at hl 2 rfl) ?_
              obtain ⟨kb15, hf⟩ := ig hf
              obtain ⟨z15, h15, e15, hf⟩ := ob2 hf
              refine r_callV C hw (mX10_send e15) kXX10_send ck10 rfl kb15 w1188 w1190 v48 ⟨Nat.le_of_ble_eq_true rfl, Nat.le_of_ble_eq_true rfl⟩ rfl hl.1 (rest := []) rfl (Nat.le_of_ble_eq_true rfl) dX10_accepted_163 (mc := 0) (ms := 0) rfl rfl ⟨by show _ + 0 ≤ 0; omega, by show _ + 0 ≤ 0; omega⟩ (fun H locs hw => ?_)
              refine W.eq (g2 := F0 m 166 ls []) rfl ?_
              obtain ⟨rfl, rfl⟩ := sp hf
              exact r_vret C hw rfl (by omega) (by omega) dX10_accepted_166
    · have hf := ie hf c4
      refine lv_iconst (v := (0 : Int32)) hx hb dX10_accepted_61 (by decide) ?_
      refine lv_istore (lv' := [(7, .int (0 : Int32)), (0, .ref x0), (1, .int x1), (2, .int x2), (4, .int x4), (5, .int x5), (6, .int x6)]) hx hb dX10_accepted_62 hl (by decide) rfl (fun ls hl => ?_)
      refine lv_iconst (v := (0 : Int32)) hx hb dX10_accepted_64 (by decide) ?_
      refine lv_istore (lv' := [(8, .int (0 : Int32)), (7, .int (0 : Int32)), (0, .ref x0), (1, .int x1), (2, .int x2), (4, .int x4), (5, .int x5), (6, .int x6)]) hx hb dX10_accepted_65 hl (by decide) rfl (fun ls hl => ?_)
      exact bX10_accepted_67 C hn hk50 LF _ _ _ _ _ _ _ _ _ _ hf _ _ _ _ _ (by omega) (by omega) hw (lv_sub hl [2, 3, 4, 5, 6, 7, 1, 0] rfl)
set_option maxRecDepth 100000 in
set_option maxHeartbeats 4000000 in
theorem bX10_accepted_50 {D : va_G} {cy : Nat → ClassId} {s0 : Nat} {p : Program} {l : Launch} {e : Env} {s : State} {m : MethodId} {args : Array Value} {below : List Frame} {meth : Method} {c : Code} (C : CX D cy s0 p s m args meth c cX10_accepted 9 RX10 none) (hn : meth.name = "accepted") : ∀ (n : Nat) (x0 : Nat) (x1 : Int32) (x2 : Int32) (x4 : Int32) (x5 : Int32) (x6 : Int32) (h : Hp) (r : Unit × Hp), fX10_accepted_50 n x0 x1 x2 x4 x5 x6 h = some r → pX10_accepted_50 D cy s0 p l e s m args below meth c r x0 x1 x2 x4 x5 x6 h := by
  intro n
  induction n with
  | zero => intro x0 x1 x2 x4 x5 x6 h r hf; exact absurd hf (fun q => by cases q)
  | succ n ih => exact bX10_accepted_50_body C hn ih
set_option maxRecDepth 100000 in
set_option maxHeartbeats 4000000 in
theorem bX10_accepted_36 {D : va_G} {cy : Nat → ClassId} {s0 : Nat} {p : Program} {l : Launch} {e : Env} {s : State} {m : MethodId} {args : Array Value} {below : List Frame} {meth : Method} {c : Code} (C : CX D cy s0 p s m args meth c cX10_accepted 9 RX10 none) (hn : meth.name = "accepted") : ∀ (x0 : Nat) (x1 : Int32) (x2 : Int32) (x4 : Int32) (h : Hp) (r : Unit × Hp), fX10_accepted_36 x0 x1 x2 x4 h = some r → pX10_accepted_36 D cy s0 p l e s m args below meth c r x0 x1 x2 x4 h := by
  intro x0 x1 x2 x4 h ⟨rv, rh⟩ hf H locs ls cells slots hc hs hw hl
  unfold fX10_accepted_36 at hf
  have hx := C.1
  have hb := C.2.1
  refine lv_aload_n hx hb dX10_accepted_36 rfl (lv_at hl 0 rfl) ?_
  obtain ⟨z1, e1, hf⟩ := ob hf
  refine r_gR C hw e1 ck10 rfl (by decide) w969 dX10_accepted_37 ?_
  cases z1 with
  | none =>
    have hf := on_n hf
    cases hf
  | some a2 =>
    have hf := on_s hf
    refine W.eq (g2 := F0 m 40 ls [.ref a2]) rfl ?_
    refine lv_iload_n hx hb dX10_accepted_40 rfl (lv_at hl 1 rfl) ?_
    obtain ⟨z3, e3, hf⟩ := ob hf
    refine r_iald C hw e3 dX10_accepted_41 ?_
    refine lv_istore (lv' := [(5, .int z3), (0, .ref x0), (1, .int x1), (2, .int x2), (4, .int x4)]) hx hb dX10_accepted_42 hl (by decide) rfl (fun ls hl => ?_)
    refine lv_iload hx hb dX10_accepted_44 (lv_at hl 0 rfl) ?_
    refine lv_iconst (v := (1 : Int32)) hx hb dX10_accepted_46 (by decide) ?_
    refine lv_iadd hx hb dX10_accepted_47 ?_
    refine lv_istore (lv' := [(6, .int (z3 + (1 : Int32))), (5, .int z3), (0, .ref x0), (1, .int x1), (2, .int x2), (4, .int x4)]) hx hb dX10_accepted_48 hl (by decide) rfl (fun ls hl => ?_)
    exact bX10_accepted_50 C hn LF _ _ _ _ _ _ _ _ hf _ _ _ _ _ (by omega) (by omega) hw (lv_sub hl [2, 3, 4, 5, 1, 0] rfl)
set_option maxRecDepth 100000 in
set_option maxHeartbeats 4000000 in
theorem bX10_accepted {D : va_G} {cy : Nat → ClassId} {s0 : Nat} {p : Program} {l : Launch} {e : Env} {s : State} {m : MethodId} {args : Array Value} {below : List Frame} {meth : Method} {c : Code} (C : CX D cy s0 p s m args meth c cX10_accepted 9 RX10 none) (hn : meth.name = "accepted") : ∀ (x0 : Nat) (x1 : Int32) (x2 : Int32) (x3 : Int32) (h : Hp) (r : Unit × Hp), fX10_accepted x0 x1 x2 x3 h = some r → pX10_accepted D cy s0 p l e s m args below meth c r x0 x1 x2 x3 h := by
  intro x0 x1 x2 x3 h ⟨rv, rh⟩ hf H locs ls cells slots hc hs hw hl
  unfold fX10_accepted at hf
  have hx := C.1
  have hb := C.2.1
  refine lv_iconst (v := (5 : Int32)) hx hb dX10_accepted_0 (by decide) ?_
  refine lv_iload_n hx hb dX10_accepted_1 rfl (lv_at hl 1 rfl) ?_
  refine lv_imul hx hb dX10_accepted_2 ?_
  refine lv_iload_n hx hb dX10_accepted_3 rfl (lv_at hl 2 rfl) ?_
  refine lv_iadd hx hb dX10_accepted_4 ?_
  refine lv_istore (lv' := [(4, .int (((5 : Int32) * x1) + x2)), (0, .ref x0), (1, .int x1), (2, .int x2), (3, .int x3)]) hx hb dX10_accepted_5 hl (by decide) rfl (fun ls hl => ?_)
  refine lv_aload_n hx hb dX10_accepted_7 rfl (lv_at hl 1 rfl) ?_
  obtain ⟨z1, e1, hf⟩ := ob hf
  refine r_gR C hw e1 ck10 rfl (by decide) w975 dX10_accepted_8 ?_
  cases z1 with
  | none =>
    have hf := on_n hf
    cases hf
  | some a2 =>
    have hf := on_s hf
    refine W.eq (g2 := F0 m 11 ls [.ref a2]) rfl ?_
    refine lv_iload hx hb dX10_accepted_11 (lv_at hl 0 rfl) ?_
    obtain ⟨z3, e3, hf⟩ := ob hf
    refine r_iald C hw e3 dX10_accepted_13 ?_
    refine lv_iload_n hx hb dX10_accepted_14 rfl (lv_at hl 4 rfl) ?_
    refine lv_icmp_ge (tgt := 36) hx hb dX10_accepted_15 (by decide) (fun c4 => ?_) (fun c4 => ?_)
    · have hf := ip hf c4
      exact bX10_accepted_36 C hn _ _ _ _ _ _ hf _ _ _ _ _ (by omega) (by omega) hw (lv_sub hl [1, 2, 3, 0] rfl)
    · have hf := ie hf c4
      refine lv_aload_n hx hb dX10_accepted_18 rfl (lv_at hl 1 rfl) ?_
      obtain ⟨z5, e5, hf⟩ := ob hf
      refine r_gR C hw e5 ck10 rfl (by decide) w975 dX10_accepted_19 ?_
      cases z5 with
      | none =>
        have hf := on_n hf
        cases hf
      | some a6 =>
        have hf := on_s hf
        refine W.eq (g2 := F0 m 22 ls [.ref a6]) rfl ?_
        refine lv_iload hx hb dX10_accepted_22 (lv_at hl 0 rfl) ?_
        refine lv_iload_n hx hb dX10_accepted_24 rfl (lv_at hl 4 rfl) ?_
        obtain ⟨h7, e7, hf⟩ := ob hf
        refine r_iast C hw e7 dX10_accepted_25 (fun H locs hw => ?_)
        refine lv_aload_n hx hb dX10_accepted_26 rfl (lv_at hl 1 rfl) ?_
        obtain ⟨z8, e8, hf⟩ := ob hf
        refine r_gR C hw e8 ck10 rfl (by decide) w974 dX10_accepted_27 ?_
        cases z8 with
        | none =>
          have hf := on_n hf
          cases hf
        | some a9 =>
          have hf := on_s hf
          refine W.eq (g2 := F0 m 30 ls [.ref a9]) rfl ?_
          refine lv_iload hx hb dX10_accepted_30 (lv_at hl 0 rfl) ?_
          refine lv_iload_n hx hb dX10_accepted_32 rfl (lv_at hl 4 rfl) ?_
          refine lv_iconst (v := (1 : Int32)) hx hb dX10_accepted_33 (by decide) ?_
          refine lv_iadd hx hb dX10_accepted_34 ?_
          obtain ⟨h10, e10, hf⟩ := ob hf
          refine r_iast C hw e10 dX10_accepted_35 (fun H locs hw => ?_)
          exact bX10_accepted_36 C hn _ _ _ _ _ _ hf _ _ _ _ _ (by omega) (by omega) hw (lv_sub hl [1, 2, 3, 0] rfl)
theorem kXX10_accepted : MK yX10_accepted cX10_accepted 9 none 3 := ⟨w1201, w8, by decide +kernel⟩
theorem mX10_accepted {D : va_G} {cy : Nat → ClassId} {s0 : Nat} {l : Launch} {x0 : Nat} {x1 : Int32} {x2 : Int32} {x3 : Int32} {h : Hp} {v : Unit} {h1 : Hp} (hf : fX10_accepted x0 x1 x2 x3 h = some (v, h1)) : MT D cy s0 l yX10_accepted cX10_accepted 9 none rX10_accepted [.ref x0, .int x1, .int x2, .int x3] h none h1 := by
  refine MT.of (by decide +kernel) (Nat.le_of_ble_eq_true rfl) ?_
  intro p e s m below meth c H locs ls C hn hw hl
  exact bX10_accepted C hn _ _ _ _ _ _ hf _ _ _ _ _ (Nat.le_of_ble_eq_true rfl) (Nat.le_of_ble_eq_true rfl) hw hl
abbrev rX10_down : Room := { frames := 0, cells := 0, slots := 0, locals := 0 }
abbrev pX10_down (D : va_G) (cy : Nat → ClassId) (s0 : Nat) (p : Program) (l : Launch) (e : Env) (s : State) (m : MethodId) (args : Array Value) (below : List Frame) (meth : Method) (c : Code) (r : Unit × Hp) (x0 : Nat) (x1 : Int32) (h : Hp) : Prop := ∀ (H : Heap) (locs : List Loc) (ls : Array Slot) (cells slots : Nat), cells + (0) ≤ 0 → slots + (0) ≤ 0 → WS D cy s0 s h H locs → lv_has ls 2 [(0, .ref x0), (1, .int x1)] → W p l e rX10_down s m args below meth c H locs cells slots (MQ below (QQ D cy s0 none r.2) args s 0 0 (fun q => s0 ≤ q)) (F0 m 0 ls [])
set_option maxRecDepth 100000 in
set_option maxHeartbeats 4000000 in
theorem bX10_down {D : va_G} {cy : Nat → ClassId} {s0 : Nat} {p : Program} {l : Launch} {e : Env} {s : State} {m : MethodId} {args : Array Value} {below : List Frame} {meth : Method} {c : Code} (C : CX D cy s0 p s m args meth c cX10_down 2 RX10 none) (hn : meth.name = "down") : ∀ (x0 : Nat) (x1 : Int32) (h : Hp) (r : Unit × Hp), fX10_down x0 x1 h = some r → pX10_down D cy s0 p l e s m args below meth c r x0 x1 h := by
  intro x0 x1 h ⟨rv, rh⟩ hf H locs ls cells slots hc hs hw hl
  unfold fX10_down at hf
  have hx := C.1
  have hb := C.2.1
  refine lv_aload_n hx hb dX10_down_0 rfl (lv_at hl 0 rfl) ?_
  obtain ⟨z1, e1, hf⟩ := ob hf
  refine r_gR C hw e1 ck10 rfl (by decide) w964 dX10_down_1 ?_
  cases z1 with
  | none =>
    have hf := on_n hf
    cases hf
  | some a2 =>
    have hf := on_s hf
    refine W.eq (g2 := F0 m 4 ls [.ref a2]) rfl ?_
    refine lv_iload_n hx hb dX10_down_4 rfl (lv_at hl 1 rfl) ?_
    refine lv_iconst (v := (0 : Int32)) hx hb dX10_down_5 (by decide) ?_
    obtain ⟨h3, e3, hf⟩ := ob hf
    refine r_zast C hw e3 dX10_down_6 (fun H locs hw => ?_)
    refine lv_aload_n hx hb dX10_down_7 rfl (lv_at hl 0 rfl) ?_
    obtain ⟨z4, e4, hf⟩ := ob hf
    refine r_gR C hw e4 ck10 rfl (by decide) w971 dX10_down_8 ?_
    cases z4 with
    | none =>
      have hf := on_n hf
      cases hf
    | some a5 =>
      have hf := on_s hf
      refine W.eq (g2 := F0 m 11 ls [.ref a5]) rfl ?_
      refine lv_iload_n hx hb dX10_down_11 rfl (lv_at hl 1 rfl) ?_
      refine lv_iconst (v := (0 : Int32)) hx hb dX10_down_12 (by decide) ?_
      obtain ⟨h6, e6, hf⟩ := ob hf
      refine r_iast C hw e6 dX10_down_13 (fun H locs hw => ?_)
      refine lv_aload_n hx hb dX10_down_14 rfl (lv_at hl 0 rfl) ?_
      obtain ⟨z7, e7, hf⟩ := ob hf
      refine r_gR C hw e7 ck10 rfl (by decide) w973 dX10_down_15 ?_
      cases z7 with
      | none =>
        have hf := on_n hf
        cases hf
      | some a8 =>
        have hf := on_s hf
        refine W.eq (g2 := F0 m 18 ls [.ref a8]) rfl ?_
        refine lv_iload_n hx hb dX10_down_18 rfl (lv_at hl 1 rfl) ?_
        refine lv_iconst (v := (-1 : Int32)) hx hb dX10_down_19 (by decide) ?_
        obtain ⟨h9, e9, hf⟩ := ob hf
        refine r_iast C hw e9 dX10_down_20 (fun H locs hw => ?_)
        obtain ⟨rfl, rfl⟩ := sp hf
        exact r_vret C hw rfl (by omega) (by omega) dX10_down_21
theorem kXX10_down : MK yX10_down cX10_down 2 none 1 := ⟨w1143, w8, by decide +kernel⟩
theorem mX10_down {D : va_G} {cy : Nat → ClassId} {s0 : Nat} {l : Launch} {x0 : Nat} {x1 : Int32} {h : Hp} {v : Unit} {h1 : Hp} (hf : fX10_down x0 x1 h = some (v, h1)) : MT D cy s0 l yX10_down cX10_down 2 none rX10_down [.ref x0, .int x1] h none h1 := by
  refine MT.of (by decide +kernel) (Nat.le_of_ble_eq_true rfl) ?_
  intro p e s m below meth c H locs ls C hn hw hl
  exact bX10_down C hn _ _ _ _ hf _ _ _ _ _ (Nat.le_of_ble_eq_true rfl) (Nat.le_of_ble_eq_true rfl) hw hl
abbrev rX10_record : Room := { frames := 1, cells := 0, slots := 0, locals := 21 }
abbrev pX10_record (D : va_G) (cy : Nat → ClassId) (s0 : Nat) (p : Program) (l : Launch) (e : Env) (s : State) (m : MethodId) (args : Array Value) (below : List Frame) (meth : Method) (c : Code) (r : Int32 × Hp) (x0 : Nat) (x1 : Int32) (h : Hp) : Prop := ∀ (H : Heap) (locs : List Loc) (ls : Array Slot) (cells slots : Nat), cells + (0) ≤ 0 → slots + (0) ≤ 0 → WS D cy s0 s h H locs → lv_has ls 2 [(0, .ref x0), (1, .int x1)] → W p l e rX10_record s m args below meth c H locs cells slots (MQ below (QQ D cy s0 (some (.int r.1)) r.2) args s 0 0 (fun q => s0 ≤ q)) (F0 m 0 ls [])
set_option maxRecDepth 100000 in
set_option maxHeartbeats 4000000 in
theorem bX10_record {D : va_G} {cy : Nat → ClassId} {s0 : Nat} {p : Program} {l : Launch} {e : Env} {s : State} {m : MethodId} {args : Array Value} {below : List Frame} {meth : Method} {c : Code} (C : CX D cy s0 p s m args meth c cX10_record 2 RX10 (some .boolean)) (hn : meth.name = "record") : ∀ (x0 : Nat) (x1 : Int32) (h : Hp) (r : Int32 × Hp), fX10_record x0 x1 h = some r → pX10_record D cy s0 p l e s m args below meth c r x0 x1 h := by
  intro x0 x1 h ⟨rv, rh⟩ hf H locs ls cells slots hc hs hw hl
  unfold fX10_record at hf
  have hx := C.1
  have hb := C.2.1
  refine lv_aload_n hx hb dX10_record_0 rfl (lv_at hl 0 rfl) ?_
  obtain ⟨z1, e1, hf⟩ := ob hf
  refine r_gR C hw e1 ck10 rfl (by decide) w973 dX10_record_1 ?_
  cases z1 with
  | none =>
    have hf := on_n hf
    cases hf
  | some a2 =>
    have hf := on_s hf
    refine W.eq (g2 := F0 m 4 ls [.ref a2]) rfl ?_
    refine lv_iload_n hx hb dX10_record_4 rfl (lv_at hl 1 rfl) ?_
    obtain ⟨z3, e3, hf⟩ := ob hf
    refine r_iald C hw e3 dX10_record_5 ?_
    refine lv_if_ne (tgt := 16) hx hb dX10_record_6 (by decide) (fun c4 => ?_) (fun c4 => ?_)
    · have hf := ie hf c4
      refine lv_aload_n hx hb dX10_record_16 rfl (lv_at hl 0 rfl) ?_
      obtain ⟨z5, e5, hf⟩ := ob hf
      refine r_gR C hw e5 ck10 rfl (by decide) w973 dX10_record_17 ?_
      cases z5 with
      | none =>
        have hf := on_n hf
        cases hf
      | some a6 =>
        have hf := on_s hf
        refine W.eq (g2 := F0 m 20 ls [.ref a6]) rfl ?_
        refine lv_iload_n hx hb dX10_record_20 rfl (lv_at hl 1 rfl) ?_
        obtain ⟨z7, e7, hf⟩ := ob hf
        refine r_iald C hw e7 dX10_record_21 ?_
        refine lv_if_le (tgt := 35) hx hb dX10_record_22 (by decide) (fun c8 => ?_) (fun c8 => ?_)
        · have hf := ip hf c8
          refine lv_iconst (v := (1 : Int32)) hx hb dX10_record_35 (by decide) ?_
          obtain ⟨rfl, rfl⟩ := sp hf
          exact r_iret C hw rfl (nz (Or.inr rfl)) (by omega) (by omega) dX10_record_36
        · have hf := ie hf c8
          refine lv_aload_n hx hb dX10_record_25 rfl (lv_at hl 0 rfl) ?_
          obtain ⟨z9, e9, hf⟩ := ob hf
          refine r_gR C hw e9 ck10 rfl (by decide) w973 dX10_record_26 ?_
          cases z9 with
          | none =>
            have hf := on_n hf
            cases hf
          | some a10 =>
            have hf := on_s hf
            refine W.eq (g2 := F0 m 29 ls [.ref a10]) rfl ?_
            refine lv_iload_n hx hb dX10_record_29 rfl (lv_at hl 1 rfl) ?_
            refine lv_dup2_11 hx hb dX10_record_30 rfl rfl ?_
            obtain ⟨z11, e11, hf⟩ := ob hf
            refine r_iald C hw e11 dX10_record_31 ?_
            refine lv_iconst (v := (1 : Int32)) hx hb dX10_record_32 (by decide) ?_
            refine lv_isub hx hb dX10_record_33 ?_
            obtain ⟨h12, e12, hf⟩ := ob hf
            refine r_iast C hw e12 dX10_record_34 (fun H locs hw => ?_)
            refine lv_iconst (v := (1 : Int32)) hx hb dX10_record_35 (by decide) ?_
            obtain ⟨rfl, rfl⟩ := sp hf
            exact r_iret C hw rfl (nz (Or.inr rfl)) (by omega) (by omega) dX10_record_36
    · have hf := ip hf c4
      refine lv_aload_n hx hb dX10_record_9 rfl (lv_at hl 0 rfl) ?_
      refine lv_iload_n hx hb dX10_record_10 rfl (lv_at hl 1 rfl) ?_
      obtain ⟨kb13, hf⟩ := ig hf
      obtain ⟨z13, h13, e13, hf⟩ := ob2 hf
      refine r_callV C hw (mX10_down e13) kXX10_down ck10 rfl kb13 w1140 w1142 v37 ⟨Nat.le_of_ble_eq_true rfl, Nat.le_of_ble_eq_true rfl⟩ rfl hl.1 (rest := []) rfl (Nat.le_of_ble_eq_true rfl) dX10_record_11 (mc := 0) (ms := 0) rfl rfl ⟨by show _ + 0 ≤ 0; omega, by show _ + 0 ≤ 0; omega⟩ (fun H locs hw => ?_)
      refine W.eq (g2 := F0 m 14 ls []) rfl ?_
      refine lv_iconst (v := (0 : Int32)) hx hb dX10_record_14 (by decide) ?_
      obtain ⟨rfl, rfl⟩ := sp hf
      exact r_iret C hw rfl (nz (Or.inl rfl)) (by omega) (by omega) dX10_record_15
theorem kXX10_record : MK yX10_record cX10_record 2 (some .boolean) 1 := ⟨w1139, w8, by decide +kernel⟩
theorem mX10_record {D : va_G} {cy : Nat → ClassId} {s0 : Nat} {l : Launch} {x0 : Nat} {x1 : Int32} {h : Hp} {v : Int32} {h1 : Hp} (hf : fX10_record x0 x1 h = some (v, h1)) : MT D cy s0 l yX10_record cX10_record 2 (some .boolean) rX10_record [.ref x0, .int x1] h (some (.int v)) h1 := by
  refine MT.of (by decide +kernel) (Nat.le_of_ble_eq_true rfl) ?_
  intro p e s m below meth c H locs ls C hn hw hl
  exact bX10_record C hn _ _ _ _ hf _ _ _ _ _ (Nat.le_of_ble_eq_true rfl) (Nat.le_of_ble_eq_true rfl) hw hl
abbrev rX10_comes : Room := { frames := 2, cells := 0, slots := 0, locals := 42 }
abbrev pX10_comes_13 (D : va_G) (cy : Nat → ClassId) (s0 : Nat) (p : Program) (l : Launch) (e : Env) (s : State) (m : MethodId) (args : Array Value) (below : List Frame) (meth : Method) (c : Code) (r : Int32 × Hp) (x0 : Nat) (x1 : Int32) (x2 : Int32) (x3 : Nat) (x4 : Int32) (x5 : Int32) (h : Hp) : Prop := ∀ (H : Heap) (locs : List Loc) (ls : Array Slot) (cells slots : Nat), cells + (0) ≤ 0 → slots + (0) ≤ 0 → WS D cy s0 s h H locs → lv_has ls 6 [(0, .ref x0), (1, .int x1), (2, .int x2), (3, .ref x3), (4, .int x4), (5, .int x5)] → W p l e rX10_comes s m args below meth c H locs cells slots (MQ below (QQ D cy s0 (some (.int r.1)) r.2) args s 0 0 (fun q => s0 ≤ q)) (F0 m 13 ls [])
abbrev pX10_comes (D : va_G) (cy : Nat → ClassId) (s0 : Nat) (p : Program) (l : Launch) (e : Env) (s : State) (m : MethodId) (args : Array Value) (below : List Frame) (meth : Method) (c : Code) (r : Int32 × Hp) (x0 : Nat) (x1 : Int32) (x2 : Int32) (x3 : Nat) (x4 : Int32) (h : Hp) : Prop := ∀ (H : Heap) (locs : List Loc) (ls : Array Slot) (cells slots : Nat), cells + (0) ≤ 0 → slots + (0) ≤ 0 → WS D cy s0 s h H locs → lv_has ls 6 [(0, .ref x0), (1, .int x1), (2, .int x2), (3, .ref x3), (4, .int x4)] → W p l e rX10_comes s m args below meth c H locs cells slots (MQ below (QQ D cy s0 (some (.int r.1)) r.2) args s 0 0 (fun q => s0 ≤ q)) (F0 m 0 ls [])
set_option maxRecDepth 100000 in
set_option maxHeartbeats 4000000 in
theorem bX10_comes_13_body {D : va_G} {cy : Nat → ClassId} {s0 : Nat} {p : Program} {l : Launch} {e : Env} {s : State} {m : MethodId} {args : Array Value} {below : List Frame} {meth : Method} {c : Code} (C : CX D cy s0 p s m args meth c cX10_comes 6 RX10 (some .boolean)) (hn : meth.name = "comes") {k13 : Nat → Int32 → Int32 → Nat → Int32 → Int32 → Hp → Option (Int32 × Hp)} (hk13 : ∀ (x0 : Nat) (x1 : Int32) (x2 : Int32) (x3 : Nat) (x4 : Int32) (x5 : Int32) (h : Hp) (r : Int32 × Hp), k13 x0 x1 x2 x3 x4 x5 h = some r → pX10_comes_13 D cy s0 p l e s m args below meth c r x0 x1 x2 x3 x4 x5 h) : ∀ (x0 : Nat) (x1 : Int32) (x2 : Int32) (x3 : Nat) (x4 : Int32) (x5 : Int32) (h : Hp) (r : Int32 × Hp), fX10_comes_13_body k13 x0 x1 x2 x3 x4 x5 h = some r → pX10_comes_13 D cy s0 p l e s m args below meth c r x0 x1 x2 x3 x4 x5 h := by
  intro x0 x1 x2 x3 x4 x5 h ⟨rv, rh⟩ hf H locs ls cells slots hc hs hw hl
  unfold fX10_comes_13_body at hf
  have hx := C.1
  have hb := C.2.1
  refine lv_iload hx hb dX10_comes_13 (lv_at hl 5 rfl) ?_
  refine lv_bipush (v := (8 : Int32)) hx hb dX10_comes_15 (by decide) ?_
  refine lv_icmp_ge (tgt := 47) hx hb dX10_comes_17 (by decide) (fun c1 => ?_) (fun c1 => ?_)
  · have hf := ip hf c1
    refine lv_aload_n hx hb dX10_comes_47 rfl (lv_at hl 0 rfl) ?_
    obtain ⟨z2, e2, hf⟩ := ob hf
    refine r_gR C hw e2 ck10 rfl (by decide) w968 dX10_comes_48 ?_
    cases z2 with
    | none =>
      have hf := on_n hf
      cases hf
    | some a3 =>
      have hf := on_s hf
      refine W.eq (g2 := F0 m 51 ls [.ref a3]) rfl ?_
      refine lv_iload_n hx hb dX10_comes_51 rfl (lv_at hl 1 rfl) ?_
      refine lv_iload_n hx hb dX10_comes_52 rfl (lv_at hl 2 rfl) ?_
      obtain ⟨h4, e4, hf⟩ := ob hf
      refine r_iast C hw e4 dX10_comes_53 (fun H locs hw => ?_)
      refine lv_iconst (v := (1 : Int32)) hx hb dX10_comes_54 (by decide) ?_
      obtain ⟨rfl, rfl⟩ := sp hf
      exact r_iret C hw rfl (nz (Or.inr rfl)) (by omega) (by omega) dX10_comes_55
  · have hf := ie hf c1
    refine lv_aload_n hx hb dX10_comes_20 rfl (lv_at hl 0 rfl) ?_
    obtain ⟨z5, e5, hf⟩ := ob hf
    refine r_gR C hw e5 ck10 rfl (by decide) w976 dX10_comes_21 ?_
    cases z5 with
    | none =>
      have hf := on_n hf
      cases hf
    | some a6 =>
      have hf := on_s hf
      refine W.eq (g2 := F0 m 24 ls [.ref a6]) rfl ?_
      refine lv_aload_n hx hb dX10_comes_24 rfl (lv_at hl 0 rfl) ?_
      refine lv_iload_n hx hb dX10_comes_25 rfl (lv_at hl 1 rfl) ?_
      refine lv_iload_n hx hb dX10_comes_26 rfl (lv_at hl 2 rfl) ?_
      obtain ⟨kb7, hf⟩ := ig hf
      obtain ⟨z7, h7, e7, hf⟩ := ob2 hf
      refine r_callV C hw (mX10_at e7) kXX10_at ck10 rfl kb7 w1152 w1154 v40 ⟨Nat.le_of_ble_eq_true rfl, Nat.le_of_ble_eq_true rfl⟩ rfl hl.1 (rest := [.ref a6]) rfl (Nat.le_of_ble_eq_true rfl) dX10_comes_27 (mc := 0) (ms := 0) rfl rfl ⟨by show _ + 0 ≤ 0; omega, by show _ + 0 ≤ 0; omega⟩ (fun H locs hw => ?_)
      refine W.eq (g2 := F0 m 30 ls [.int z7, .ref a6]) rfl ?_
      refine lv_iload hx hb dX10_comes_30 (lv_at hl 5 rfl) ?_
      refine lv_iadd hx hb dX10_comes_32 ?_
      refine lv_aload_n hx hb dX10_comes_33 rfl (lv_at hl 3 rfl) ?_
      refine lv_iload hx hb dX10_comes_34 (lv_at hl 4 rfl) ?_
      refine lv_iload hx hb dX10_comes_36 (lv_at hl 5 rfl) ?_
      refine lv_iadd hx hb dX10_comes_38 ?_
      obtain ⟨z8, e8, hf⟩ := ob hf
      refine r_iald C hw e8 dX10_comes_39 ?_
      obtain ⟨h9, e9, hf⟩ := ob hf
      refine r_iast C hw e9 dX10_comes_40 (fun H locs hw => ?_)
      refine lv_iinc (v := (x5 + (1 : Int32))) (lv' := [(5, .int (x5 + (1 : Int32))), (0, .ref x0), (1, .int x1), (2, .int x2), (3, .ref x3), (4, .int x4)]) hx hb dX10_comes_41 hl (k := 5) rfl rfl (by decide) rfl (fun ls hl => ?_)
      refine lv_goto (tgt := 13) hx hb dX10_comes_44 (by decide) ?_
      exact hk13 _ _ _ _ _ _ _ _ hf _ _ _ _ _ (by omega) (by omega) hw (lv_sub hl [1, 2, 3, 4, 5, 0] rfl)
set_option maxRecDepth 100000 in
set_option maxHeartbeats 4000000 in
theorem bX10_comes_13 {D : va_G} {cy : Nat → ClassId} {s0 : Nat} {p : Program} {l : Launch} {e : Env} {s : State} {m : MethodId} {args : Array Value} {below : List Frame} {meth : Method} {c : Code} (C : CX D cy s0 p s m args meth c cX10_comes 6 RX10 (some .boolean)) (hn : meth.name = "comes") : ∀ (n : Nat) (x0 : Nat) (x1 : Int32) (x2 : Int32) (x3 : Nat) (x4 : Int32) (x5 : Int32) (h : Hp) (r : Int32 × Hp), fX10_comes_13 n x0 x1 x2 x3 x4 x5 h = some r → pX10_comes_13 D cy s0 p l e s m args below meth c r x0 x1 x2 x3 x4 x5 h := by
  intro n
  induction n with
  | zero => intro x0 x1 x2 x3 x4 x5 h r hf; exact absurd hf (fun q => by cases q)
  | succ n ih => exact bX10_comes_13_body C hn ih
set_option maxRecDepth 100000 in
set_option maxHeartbeats 4000000 in
theorem bX10_comes {D : va_G} {cy : Nat → ClassId} {s0 : Nat} {p : Program} {l : Launch} {e : Env} {s : State} {m : MethodId} {args : Array Value} {below : List Frame} {meth : Method} {c : Code} (C : CX D cy s0 p s m args meth c cX10_comes 6 RX10 (some .boolean)) (hn : meth.name = "comes") : ∀ (x0 : Nat) (x1 : Int32) (x2 : Int32) (x3 : Nat) (x4 : Int32) (h : Hp) (r : Int32 × Hp), fX10_comes x0 x1 x2 x3 x4 h = some r → pX10_comes D cy s0 p l e s m args below meth c r x0 x1 x2 x3 x4 h := by
  intro x0 x1 x2 x3 x4 h ⟨rv, rh⟩ hf H locs ls cells slots hc hs hw hl
  unfold fX10_comes at hf
  have hx := C.1
  have hb := C.2.1
  refine lv_aload_n hx hb dX10_comes_0 rfl (lv_at hl 0 rfl) ?_
  refine lv_iload_n hx hb dX10_comes_1 rfl (lv_at hl 1 rfl) ?_
  obtain ⟨kb1, hf⟩ := ig hf
  obtain ⟨z1, h1, e1, hf⟩ := ob2 hf
  refine r_callV C hw (mX10_record e1) kXX10_record ck10 rfl kb1 w1136 w1138 v36 ⟨Nat.le_of_ble_eq_true rfl, Nat.le_of_ble_eq_true rfl⟩ rfl hl.1 (rest := []) rfl (Nat.le_of_ble_eq_true rfl) dX10_comes_2 (mc := 0) (ms := 0) rfl rfl ⟨by show _ + 0 ≤ 0; omega, by show _ + 0 ≤ 0; omega⟩ (fun H locs hw => ?_)
  refine W.eq (g2 := F0 m 5 ls [.int z1]) rfl ?_
  refine lv_if_ne (tgt := 10) hx hb dX10_comes_5 (by decide) (fun c2 => ?_) (fun c2 => ?_)
  · have hf := ie hf c2
    refine lv_iconst (v := (0 : Int32)) hx hb dX10_comes_10 (by decide) ?_
    refine lv_istore (lv' := [(5, .int (0 : Int32)), (0, .ref x0), (1, .int x1), (2, .int x2), (3, .ref x3), (4, .int x4)]) hx hb dX10_comes_11 hl (by decide) rfl (fun ls hl => ?_)
    exact bX10_comes_13 C hn LF _ _ _ _ _ _ _ _ hf _ _ _ _ _ (by omega) (by omega) hw (lv_sub hl [1, 2, 3, 4, 5, 0] rfl)
  · have hf := ip hf c2
    refine lv_iconst (v := (0 : Int32)) hx hb dX10_comes_8 (by decide) ?_
    obtain ⟨rfl, rfl⟩ := sp hf
    exact r_iret C hw rfl (nz (Or.inl rfl)) (by omega) (by omega) dX10_comes_9
theorem kXX10_comes : MK yX10_comes cX10_comes 6 (some .boolean) 4 := ⟨w1183, w8, by decide +kernel⟩
theorem mX10_comes {D : va_G} {cy : Nat → ClassId} {s0 : Nat} {l : Launch} {x0 : Nat} {x1 : Int32} {x2 : Int32} {x3 : Nat} {x4 : Int32} {h : Hp} {v : Int32} {h1 : Hp} (hf : fX10_comes x0 x1 x2 x3 x4 h = some (v, h1)) : MT D cy s0 l yX10_comes cX10_comes 6 (some .boolean) rX10_comes [.ref x0, .int x1, .int x2, .ref x3, .int x4] h (some (.int v)) h1 := by
  refine MT.of (by decide +kernel) (Nat.le_of_ble_eq_true rfl) ?_
  intro p e s m below meth c H locs ls C hn hw hl
  exact bX10_comes C hn _ _ _ _ _ _ _ hf _ _ _ _ _ (Nat.le_of_ble_eq_true rfl) (Nat.le_of_ble_eq_true rfl) hw hl
abbrev rX10_adds : Room := { frames := 3, cells := 0, slots := 0, locals := 67 }
abbrev pX10_adds (D : va_G) (cy : Nat → ClassId) (s0 : Nat) (p : Program) (l : Launch) (e : Env) (s : State) (m : MethodId) (args : Array Value) (below : List Frame) (meth : Method) (c : Code) (r : Int32 × Hp) (x0 : Nat) (x1 : Int32) (x2 : Int32) (x3 : Int32) (x4 : Int32) (x5 : Int32) (x6 : Int32) (x7 : Int32) (x8 : Int32) (h : Hp) : Prop := ∀ (H : Heap) (locs : List Loc) (ls : Array Slot) (cells slots : Nat), cells + (0) ≤ 0 → slots + (0) ≤ 0 → WS D cy s0 s h H locs → lv_has ls 9 [(0, .ref x0), (1, .int x1), (2, .int x2), (3, .int x3), (4, .int x4), (5, .int x5), (6, .int x6), (7, .int x7), (8, .int x8)] → W p l e rX10_adds s m args below meth c H locs cells slots (MQ below (QQ D cy s0 (some (.int r.1)) r.2) args s 0 0 (fun q => s0 ≤ q)) (F0 m 0 ls [])
set_option maxRecDepth 100000 in
set_option maxHeartbeats 4000000 in
theorem bX10_adds {D : va_G} {cy : Nat → ClassId} {s0 : Nat} {p : Program} {l : Launch} {e : Env} {s : State} {m : MethodId} {args : Array Value} {below : List Frame} {meth : Method} {c : Code} (C : CX D cy s0 p s m args meth c cX10_adds 9 RX10 (some .boolean)) (hn : meth.name = "adds") : ∀ (x0 : Nat) (x1 : Int32) (x2 : Int32) (x3 : Int32) (x4 : Int32) (x5 : Int32) (x6 : Int32) (x7 : Int32) (x8 : Int32) (h : Hp) (r : Int32 × Hp), fX10_adds x0 x1 x2 x3 x4 x5 x6 x7 x8 h = some r → pX10_adds D cy s0 p l e s m args below meth c r x0 x1 x2 x3 x4 x5 x6 x7 x8 h := by
  intro x0 x1 x2 x3 x4 x5 x6 x7 x8 h ⟨rv, rh⟩ hf H locs ls cells slots hc hs hw hl
  unfold fX10_adds at hf
  have hx := C.1
  have hb := C.2.1
  refine lv_aload_n hx hb dX10_adds_0 rfl (lv_at hl 0 rfl) ?_
  obtain ⟨z1, e1, hf⟩ := ob hf
  refine r_gR C hw e1 ck10 rfl (by decide) w995 dX10_adds_1 ?_
  cases z1 with
  | none =>
    have hf := on_n hf
    cases hf
  | some a2 =>
    have hf := on_s hf
    refine W.eq (g2 := F0 m 4 ls [.ref a2]) rfl ?_
    refine lv_iconst (v := (0 : Int32)) hx hb dX10_adds_4 (by decide) ?_
    refine lv_aload_n hx hb dX10_adds_5 rfl (lv_at hl 0 rfl) ?_
    obtain ⟨z3, e3, hf⟩ := ob hf
    refine r_gR C hw e3 ck10 rfl (by decide) w965 dX10_adds_6 ?_
    cases z3 with
    | none =>
      have hf := on_n hf
      cases hf
    | some a4 =>
      have hf := on_s hf
      refine W.eq (g2 := F0 m 9 ls [.ref a4, .int (0 : Int32), .ref a2]) rfl ?_
      refine lv_iload_n hx hb dX10_adds_9 rfl (lv_at hl 1 rfl) ?_
      obtain ⟨z5, e5, hf⟩ := ob hf
      refine r_iald C hw e5 dX10_adds_10 ?_
      obtain ⟨h6, e6, hf⟩ := ob hf
      refine r_iast C hw e6 dX10_adds_11 (fun H locs hw => ?_)
      refine lv_aload_n hx hb dX10_adds_12 rfl (lv_at hl 0 rfl) ?_
      obtain ⟨z7, e7, hf⟩ := ob hf
      refine r_gR C hw e7 ck10 rfl (by decide) w995 dX10_adds_13 ?_
      cases z7 with
      | none =>
        have hf := on_n hf
        cases hf
      | some a8 =>
        have hf := on_s hf
        refine W.eq (g2 := F0 m 16 ls [.ref a8]) rfl ?_
        refine lv_iconst (v := (1 : Int32)) hx hb dX10_adds_16 (by decide) ?_
        refine lv_iload_n hx hb dX10_adds_17 rfl (lv_at hl 2 rfl) ?_
        obtain ⟨h9, e9, hf⟩ := ob hf
        refine r_iast C hw e9 dX10_adds_18 (fun H locs hw => ?_)
        refine lv_aload_n hx hb dX10_adds_19 rfl (lv_at hl 0 rfl) ?_
        obtain ⟨z10, e10, hf⟩ := ob hf
        refine r_gR C hw e10 ck10 rfl (by decide) w995 dX10_adds_20 ?_
        cases z10 with
        | none =>
          have hf := on_n hf
          cases hf
        | some a11 =>
          have hf := on_s hf
          refine W.eq (g2 := F0 m 23 ls [.ref a11]) rfl ?_
          refine lv_iconst (v := (2 : Int32)) hx hb dX10_adds_23 (by decide) ?_
          refine lv_iload_n hx hb dX10_adds_24 rfl (lv_at hl 3 rfl) ?_
          obtain ⟨h12, e12, hf⟩ := ob hf
          refine r_iast C hw e12 dX10_adds_25 (fun H locs hw => ?_)
          refine lv_aload_n hx hb dX10_adds_26 rfl (lv_at hl 0 rfl) ?_
          obtain ⟨z13, e13, hf⟩ := ob hf
          refine r_gR C hw e13 ck10 rfl (by decide) w995 dX10_adds_27 ?_
          cases z13 with
          | none =>
            have hf := on_n hf
            cases hf
          | some a14 =>
            have hf := on_s hf
            refine W.eq (g2 := F0 m 30 ls [.ref a14]) rfl ?_
            refine lv_iconst (v := (3 : Int32)) hx hb dX10_adds_30 (by decide) ?_
            refine lv_iload hx hb dX10_adds_31 (lv_at hl 4 rfl) ?_
            obtain ⟨h15, e15, hf⟩ := ob hf
            refine r_iast C hw e15 dX10_adds_33 (fun H locs hw => ?_)
            refine lv_aload_n hx hb dX10_adds_34 rfl (lv_at hl 0 rfl) ?_
            obtain ⟨z16, e16, hf⟩ := ob hf
            refine r_gR C hw e16 ck10 rfl (by decide) w995 dX10_adds_35 ?_
            cases z16 with
            | none =>
              have hf := on_n hf
              cases hf
            | some a17 =>
              have hf := on_s hf
              refine W.eq (g2 := F0 m 38 ls [.ref a17]) rfl ?_
              refine lv_iconst (v := (4 : Int32)) hx hb dX10_adds_38 (by decide) ?_
              refine lv_iload hx hb dX10_adds_39 (lv_at hl 5 rfl) ?_
              obtain ⟨h18, e18, hf⟩ := ob hf
              refine r_iast C hw e18 dX10_adds_41 (fun H locs hw => ?_)
              refine lv_aload_n hx hb dX10_adds_42 rfl (lv_at hl 0 rfl) ?_
              obtain ⟨z19, e19, hf⟩ := ob hf
              refine r_gR C hw e19 ck10 rfl (by decide) w995 dX10_adds_43 ?_
              cases z19 with
              | none =>
                have hf := on_n hf
                cases hf
              | some a20 =>
                have hf := on_s hf
                refine W.eq (g2 := F0 m 46 ls [.ref a20]) rfl ?_
                refine lv_iconst (v := (5 : Int32)) hx hb dX10_adds_46 (by decide) ?_
                refine lv_iload hx hb dX10_adds_47 (lv_at hl 6 rfl) ?_
                obtain ⟨h21, e21, hf⟩ := ob hf
                refine r_iast C hw e21 dX10_adds_49 (fun H locs hw => ?_)
                refine lv_aload_n hx hb dX10_adds_50 rfl (lv_at hl 0 rfl) ?_
                obtain ⟨z22, e22, hf⟩ := ob hf
                refine r_gR C hw e22 ck10 rfl (by decide) w995 dX10_adds_51 ?_
                cases z22 with
                | none =>
                  have hf := on_n hf
                  cases hf
                | some a23 =>
                  have hf := on_s hf
                  refine W.eq (g2 := F0 m 54 ls [.ref a23]) rfl ?_
                  refine lv_bipush (v := (6 : Int32)) hx hb dX10_adds_54 (by decide) ?_
                  refine lv_iload hx hb dX10_adds_56 (lv_at hl 7 rfl) ?_
                  obtain ⟨h24, e24, hf⟩ := ob hf
                  refine r_iast C hw e24 dX10_adds_58 (fun H locs hw => ?_)
                  refine lv_aload_n hx hb dX10_adds_59 rfl (lv_at hl 0 rfl) ?_
                  obtain ⟨z25, e25, hf⟩ := ob hf
                  refine r_gR C hw e25 ck10 rfl (by decide) w995 dX10_adds_60 ?_
                  cases z25 with
                  | none =>
                    have hf := on_n hf
                    cases hf
                  | some a26 =>
                    have hf := on_s hf
                    refine W.eq (g2 := F0 m 63 ls [.ref a26]) rfl ?_
                    refine lv_bipush (v := (7 : Int32)) hx hb dX10_adds_63 (by decide) ?_
                    refine lv_iload hx hb dX10_adds_65 (lv_at hl 8 rfl) ?_
                    obtain ⟨h27, e27, hf⟩ := ob hf
                    refine r_iast C hw e27 dX10_adds_67 (fun H locs hw => ?_)
                    refine lv_aload_n hx hb dX10_adds_68 rfl (lv_at hl 0 rfl) ?_
                    refine lv_iload_n hx hb dX10_adds_69 rfl (lv_at hl 1 rfl) ?_
                    refine lv_aload_n hx hb dX10_adds_70 rfl (lv_at hl 0 rfl) ?_
                    obtain ⟨z28, e28, hf⟩ := ob hf
                    refine r_gR C hw e28 ck10 rfl (by decide) w968 dX10_adds_71 ?_
                    cases z28 with
                    | none =>
                      have hf := on_n hf
                      cases hf
                    | some a29 =>
                      have hf := on_s hf
                      refine W.eq (g2 := F0 m 74 ls [.ref a29, .int x1, .ref x0]) rfl ?_
                      refine lv_iload_n hx hb dX10_adds_74 rfl (lv_at hl 1 rfl) ?_
                      obtain ⟨z30, e30, hf⟩ := ob hf
                      refine r_iald C hw e30 dX10_adds_75 ?_
                      refine lv_iconst (v := (1 : Int32)) hx hb dX10_adds_76 (by decide) ?_
                      refine lv_iadd hx hb dX10_adds_77 ?_
                      refine lv_aload_n hx hb dX10_adds_78 rfl (lv_at hl 0 rfl) ?_
                      obtain ⟨z31, e31, hf⟩ := ob hf
                      refine r_gR C hw e31 ck10 rfl (by decide) w995 dX10_adds_79 ?_
                      cases z31 with
                      | none =>
                        have hf := on_n hf
                        cases hf
                      | some a32 =>
                        have hf := on_s hf
                        refine W.eq (g2 := F0 m 82 ls [.ref a32, .int (z30 + (1 : Int32)), .int x1, .ref x0]) rfl ?_
                        refine lv_iconst (v := (0 : Int32)) hx hb dX10_adds_82 (by decide) ?_
                        obtain ⟨kb33, hf⟩ := ig hf
                        obtain ⟨z33, h33, e33, hf⟩ := ob2 hf
                        refine r_callV C hw (mX10_comes e33) kXX10_comes ck10 rfl kb33 w1180 w1182 v46 ⟨Nat.le_of_ble_eq_true rfl, Nat.le_of_ble_eq_true rfl⟩ rfl hl.1 (rest := []) rfl (Nat.le_of_ble_eq_true rfl) dX10_adds_83 (mc := 0) (ms := 0) rfl rfl ⟨by show _ + 0 ≤ 0; omega, by show _ + 0 ≤ 0; omega⟩ (fun H locs hw => ?_)
                        refine W.eq (g2 := F0 m 86 ls [.int z33]) rfl ?_
                        obtain ⟨gz, hf⟩ := ig hf
                        obtain ⟨rfl, rfl⟩ := sp hf
                        exact r_iret C hw rfl (nz gz) (by omega) (by omega) dX10_adds_86
theorem kXX10_adds : MK yX10_adds cX10_adds 9 (some .boolean) 8 := ⟨w1179, w8, by decide +kernel⟩
theorem mX10_adds {D : va_G} {cy : Nat → ClassId} {s0 : Nat} {l : Launch} {x0 : Nat} {x1 : Int32} {x2 : Int32} {x3 : Int32} {x4 : Int32} {x5 : Int32} {x6 : Int32} {x7 : Int32} {x8 : Int32} {h : Hp} {v : Int32} {h1 : Hp} (hf : fX10_adds x0 x1 x2 x3 x4 x5 x6 x7 x8 h = some (v, h1)) : MT D cy s0 l yX10_adds cX10_adds 9 (some .boolean) rX10_adds [.ref x0, .int x1, .int x2, .int x3, .int x4, .int x5, .int x6, .int x7, .int x8] h (some (.int v)) h1 := by
  refine MT.of (by decide +kernel) (Nat.le_of_ble_eq_true rfl) ?_
  intro p e s m below meth c H locs ls C hn hw hl
  exact bX10_adds C hn _ _ _ _ _ _ _ _ _ _ _ hf _ _ _ _ _ (Nat.le_of_ble_eq_true rfl) (Nat.le_of_ble_eq_true rfl) hw hl
abbrev rX10_answer : Room := { frames := 1, cells := 0, slots := 0, locals := 23 }
abbrev pX10_answer (D : va_G) (cy : Nat → ClassId) (s0 : Nat) (p : Program) (l : Launch) (e : Env) (s : State) (m : MethodId) (args : Array Value) (below : List Frame) (meth : Method) (c : Code) (r : Unit × Hp) (x0 : Nat) (x1 : Int32) (x2 : Int32) (x3 : Int32) (x4 : Int32) (h : Hp) : Prop := ∀ (H : Heap) (locs : List Loc) (ls : Array Slot) (cells slots : Nat), cells + (0) ≤ 0 → slots + (0) ≤ 0 → WS D cy s0 s h H locs → lv_has ls 6 [(0, .ref x0), (1, .int x1), (2, .int x2), (3, .int x3), (4, .int x4)] → W p l e rX10_answer s m args below meth c H locs cells slots (MQ below (QQ D cy s0 none r.2) args s 0 0 (fun q => s0 ≤ q)) (F0 m 0 ls [])
set_option maxRecDepth 100000 in
set_option maxHeartbeats 4000000 in
theorem bX10_answer {D : va_G} {cy : Nat → ClassId} {s0 : Nat} {p : Program} {l : Launch} {e : Env} {s : State} {m : MethodId} {args : Array Value} {below : List Frame} {meth : Method} {c : Code} (C : CX D cy s0 p s m args meth c cX10_answer 6 RX10 none) (hn : meth.name = "answer") : ∀ (x0 : Nat) (x1 : Int32) (x2 : Int32) (x3 : Int32) (x4 : Int32) (h : Hp) (r : Unit × Hp), fX10_answer x0 x1 x2 x3 x4 h = some r → pX10_answer D cy s0 p l e s m args below meth c r x0 x1 x2 x3 x4 h := by
  intro x0 x1 x2 x3 x4 h ⟨rv, rh⟩ hf H locs ls cells slots hc hs hw hl
  unfold fX10_answer at hf
  have hx := C.1
  have hb := C.2.1
  refine lv_aload_n hx hb dX10_answer_0 rfl (lv_at hl 0 rfl) ?_
  refine lv_iload_n hx hb dX10_answer_1 rfl (lv_at hl 1 rfl) ?_
  refine lv_iload_n hx hb dX10_answer_2 rfl (lv_at hl 2 rfl) ?_
  refine lv_iload_n hx hb dX10_answer_3 rfl (lv_at hl 3 rfl) ?_
  obtain ⟨kb1, hf⟩ := ig hf
  obtain ⟨z1, h1, e1, hf⟩ := ob2 hf
  refine r_callV C hw (mX10_made e1) kXX10_made ck10 rfl kb1 w1144 w1146 v38 ⟨Nat.le_of_ble_eq_true rfl, Nat.le_of_ble_eq_true rfl⟩ rfl hl.1 (rest := []) rfl (Nat.le_of_ble_eq_true rfl) dX10_answer_4 (mc := 0) (ms := 0) rfl rfl ⟨by show _ + 0 ≤ 0; omega, by show _ + 0 ≤ 0; omega⟩ (fun H locs hw => ?_)
  refine W.eq (g2 := F0 m 7 ls [.int z1]) rfl ?_
  refine lv_istore (lv' := [(5, .int z1), (0, .ref x0), (1, .int x1), (2, .int x2), (3, .int x3), (4, .int x4)]) hx hb dX10_answer_7 hl (by decide) rfl (fun ls hl => ?_)
  refine lv_iload hx hb dX10_answer_9 (lv_at hl 0 rfl) ?_
  refine lv_if_lt (tgt := 23) hx hb dX10_answer_11 (by decide) (fun c2 => ?_) (fun c2 => ?_)
  · have hf := ip hf c2
    obtain ⟨rfl, rfl⟩ := sp hf
    exact r_vret C hw rfl (by omega) (by omega) dX10_answer_23
  · have hf := ie hf c2
    refine lv_aload_n hx hb dX10_answer_14 rfl (lv_at hl 1 rfl) ?_
    obtain ⟨z3, e3, hf⟩ := ob hf
    refine r_gR C hw e3 ck10 rfl (by decide) w982 dX10_answer_15 ?_
    cases z3 with
    | none =>
      have hf := on_n hf
      cases hf
    | some a4 =>
      have hf := on_s hf
      refine W.eq (g2 := F0 m 18 ls [.ref a4]) rfl ?_
      refine lv_iload hx hb dX10_answer_18 (lv_at hl 0 rfl) ?_
      refine lv_iload hx hb dX10_answer_20 (lv_at hl 5 rfl) ?_
      obtain ⟨h5, e5, hf⟩ := ob hf
      refine r_iast C hw e5 dX10_answer_22 (fun H locs hw => ?_)
      obtain ⟨rfl, rfl⟩ := sp hf
      exact r_vret C hw rfl (by omega) (by omega) dX10_answer_23
theorem kXX10_answer : MK yX10_answer cX10_answer 6 none 4 := ⟨w1167, w8, by decide +kernel⟩
theorem mX10_answer {D : va_G} {cy : Nat → ClassId} {s0 : Nat} {l : Launch} {x0 : Nat} {x1 : Int32} {x2 : Int32} {x3 : Int32} {x4 : Int32} {h : Hp} {v : Unit} {h1 : Hp} (hf : fX10_answer x0 x1 x2 x3 x4 h = some (v, h1)) : MT D cy s0 l yX10_answer cX10_answer 6 none rX10_answer [.ref x0, .int x1, .int x2, .int x3, .int x4] h none h1 := by
  refine MT.of (by decide +kernel) (Nat.le_of_ble_eq_true rfl) ?_
  intro p e s m below meth c H locs ls C hn hw hl
  exact bX10_answer C hn _ _ _ _ _ _ _ hf _ _ _ _ _ (Nat.le_of_ble_eq_true rfl) (Nat.le_of_ble_eq_true rfl) hw hl
abbrev rX10_appends : Room := { frames := 3, cells := 0, slots := 0, locals := 67 }
abbrev pX10_appends_225 (D : va_G) (cy : Nat → ClassId) (s0 : Nat) (p : Program) (l : Launch) (e : Env) (s : State) (m : MethodId) (args : Array Value) (below : List Frame) (meth : Method) (c : Code) (r : Unit × Hp) (x0 : Nat) (x1 : Int32) (x2 : Int32) (x3 : Int32) (x7 : Int32) (x8 : Int32) (h : Hp) : Prop := ∀ (H : Heap) (locs : List Loc) (ls : Array Slot) (cells slots : Nat), cells + (0) ≤ 0 → slots + (0) ≤ 0 → WS D cy s0 s h H locs → lv_has ls 10 [(0, .ref x0), (1, .int x1), (2, .int x2), (3, .int x3), (7, .int x7), (8, .int x8)] → W p l e rX10_appends s m args below meth c H locs cells slots (MQ below (QQ D cy s0 none r.2) args s 0 0 (fun q => s0 ≤ q)) (F0 m 225 ls [])
abbrev pX10_appends_208 (D : va_G) (cy : Nat → ClassId) (s0 : Nat) (p : Program) (l : Launch) (e : Env) (s : State) (m : MethodId) (args : Array Value) (below : List Frame) (meth : Method) (c : Code) (r : Unit × Hp) (x0 : Nat) (x1 : Int32) (x2 : Int32) (x3 : Int32) (x7 : Int32) (x8 : Int32) (x9 : Int32) (h : Hp) : Prop := ∀ (H : Heap) (locs : List Loc) (ls : Array Slot) (cells slots : Nat), cells + (0) ≤ 0 → slots + (0) ≤ 0 → WS D cy s0 s h H locs → lv_has ls 10 [(0, .ref x0), (1, .int x1), (2, .int x2), (3, .int x3), (7, .int x7), (8, .int x8), (9, .int x9)] → W p l e rX10_appends s m args below meth c H locs cells slots (MQ below (QQ D cy s0 none r.2) args s 0 0 (fun q => s0 ≤ q)) (F0 m 208 ls [])
abbrev pX10_appends_152 (D : va_G) (cy : Nat → ClassId) (s0 : Nat) (p : Program) (l : Launch) (e : Env) (s : State) (m : MethodId) (args : Array Value) (below : List Frame) (meth : Method) (c : Code) (r : Unit × Hp) (x0 : Nat) (x1 : Int32) (x2 : Int32) (x3 : Int32) (x7 : Int32) (x8 : Int32) (h : Hp) : Prop := ∀ (H : Heap) (locs : List Loc) (ls : Array Slot) (cells slots : Nat), cells + (0) ≤ 0 → slots + (0) ≤ 0 → WS D cy s0 s h H locs → lv_has ls 10 [(0, .ref x0), (1, .int x1), (2, .int x2), (3, .int x3), (7, .int x7), (8, .int x8)] → W p l e rX10_appends s m args below meth c H locs cells slots (MQ below (QQ D cy s0 none r.2) args s 0 0 (fun q => s0 ≤ q)) (F0 m 152 ls [])
abbrev pX10_appends_144 (D : va_G) (cy : Nat → ClassId) (s0 : Nat) (p : Program) (l : Launch) (e : Env) (s : State) (m : MethodId) (args : Array Value) (below : List Frame) (meth : Method) (c : Code) (r : Unit × Hp) (x0 : Nat) (x1 : Int32) (x2 : Int32) (x3 : Int32) (x4 : Int32) (x5 : Int32) (h : Hp) : Prop := ∀ (H : Heap) (locs : List Loc) (ls : Array Slot) (cells slots : Nat), cells + (0) ≤ 0 → slots + (0) ≤ 0 → WS D cy s0 s h H locs → lv_has ls 10 [(0, .ref x0), (1, .int x1), (2, .int x2), (3, .int x3), (4, .int x4), (5, .int x5)] → W p l e rX10_appends s m args below meth c H locs cells slots (MQ below (QQ D cy s0 none r.2) args s 0 0 (fun q => s0 ≤ q)) (F0 m 144 ls [])
abbrev pX10_appends_86 (D : va_G) (cy : Nat → ClassId) (s0 : Nat) (p : Program) (l : Launch) (e : Env) (s : State) (m : MethodId) (args : Array Value) (below : List Frame) (meth : Method) (c : Code) (r : Unit × Hp) (x0 : Nat) (x1 : Int32) (x2 : Int32) (x3 : Int32) (x4 : Int32) (x5 : Int32) (x6 : Int32) (h : Hp) : Prop := ∀ (H : Heap) (locs : List Loc) (ls : Array Slot) (cells slots : Nat), cells + (0) ≤ 0 → slots + (0) ≤ 0 → WS D cy s0 s h H locs → lv_has ls 10 [(0, .ref x0), (1, .int x1), (2, .int x2), (3, .int x3), (4, .int x4), (5, .int x5), (6, .int x6)] → W p l e rX10_appends s m args below meth c H locs cells slots (MQ below (QQ D cy s0 none r.2) args s 0 0 (fun q => s0 ≤ q)) (F0 m 86 ls [])
abbrev pX10_appends_67 (D : va_G) (cy : Nat → ClassId) (s0 : Nat) (p : Program) (l : Launch) (e : Env) (s : State) (m : MethodId) (args : Array Value) (below : List Frame) (meth : Method) (c : Code) (r : Unit × Hp) (x0 : Nat) (x1 : Int32) (x2 : Int32) (x3 : Int32) (x4 : Int32) (x5 : Int32) (x6 : Int32) (h : Hp) : Prop := ∀ (H : Heap) (locs : List Loc) (ls : Array Slot) (cells slots : Nat), cells + (0) ≤ 0 → slots + (0) ≤ 0 → WS D cy s0 s h H locs → lv_has ls 10 [(0, .ref x0), (1, .int x1), (2, .int x2), (3, .int x3), (4, .int x4), (5, .int x5), (6, .int x6)] → W p l e rX10_appends s m args below meth c H locs cells slots (MQ below (QQ D cy s0 none r.2) args s 0 0 (fun q => s0 ≤ q)) (F0 m 67 ls [])
abbrev pX10_appends_36 (D : va_G) (cy : Nat → ClassId) (s0 : Nat) (p : Program) (l : Launch) (e : Env) (s : State) (m : MethodId) (args : Array Value) (below : List Frame) (meth : Method) (c : Code) (r : Unit × Hp) (x0 : Nat) (x1 : Int32) (x2 : Int32) (x3 : Int32) (x4 : Int32) (x5 : Int32) (x6 : Int32) (h : Hp) : Prop := ∀ (H : Heap) (locs : List Loc) (ls : Array Slot) (cells slots : Nat), cells + (0) ≤ 0 → slots + (0) ≤ 0 → WS D cy s0 s h H locs → lv_has ls 10 [(0, .ref x0), (1, .int x1), (2, .int x2), (3, .int x3), (4, .int x4), (5, .int x5), (6, .int x6)] → W p l e rX10_appends s m args below meth c H locs cells slots (MQ below (QQ D cy s0 none r.2) args s 0 0 (fun q => s0 ≤ q)) (F0 m 36 ls [])
abbrev pX10_appends_34 (D : va_G) (cy : Nat → ClassId) (s0 : Nat) (p : Program) (l : Launch) (e : Env) (s : State) (m : MethodId) (args : Array Value) (below : List Frame) (meth : Method) (c : Code) (r : Unit × Hp) (x0 : Nat) (x1 : Int32) (x2 : Int32) (x3 : Int32) (x4 : Int32) (x5 : Int32) (y0 : Int32) (h : Hp) : Prop := ∀ (H : Heap) (locs : List Loc) (ls : Array Slot) (cells slots : Nat), cells + (0) ≤ 0 → slots + (0) ≤ 0 → WS D cy s0 s h H locs → lv_has ls 10 [(0, .ref x0), (1, .int x1), (2, .int x2), (3, .int x3), (4, .int x4), (5, .int x5)] → W p l e rX10_appends s m args below meth c H locs cells slots (MQ below (QQ D cy s0 none r.2) args s 0 0 (fun q => s0 ≤ q)) (F0 m 34 ls [.int y0])
abbrev pX10_appends (D : va_G) (cy : Nat → ClassId) (s0 : Nat) (p : Program) (l : Launch) (e : Env) (s : State) (m : MethodId) (args : Array Value) (below : List Frame) (meth : Method) (c : Code) (r : Unit × Hp) (x0 : Nat) (x1 : Int32) (x2 : Int32) (x3 : Int32) (h : Hp) : Prop := ∀ (H : Heap) (locs : List Loc) (ls : Array Slot) (cells slots : Nat), cells + (0) ≤ 0 → slots + (0) ≤ 0 → WS D cy s0 s h H locs → lv_has ls 10 [(0, .ref x0), (1, .int x1), (2, .int x2), (3, .int x3)] → W p l e rX10_appends s m args below meth c H locs cells slots (MQ below (QQ D cy s0 none r.2) args s 0 0 (fun q => s0 ≤ q)) (F0 m 0 ls [])
set_option maxRecDepth 100000 in
set_option maxHeartbeats 4000000 in
theorem bX10_appends_225 {D : va_G} {cy : Nat → ClassId} {s0 : Nat} {p : Program} {l : Launch} {e : Env} {s : State} {m : MethodId} {args : Array Value} {below : List Frame} {meth : Method} {c : Code} (C : CX D cy s0 p s m args meth c cX10_appends 10 RX10 none) (hn : meth.name = "appends") {k152 : Nat → Int32 → Int32 → Int32 → Int32 → Int32 → Hp → Option (Unit × Hp)} (hk152 : ∀ (x0 : Nat) (x1 : Int32) (x2 : Int32) (x3 : Int32) (x7 : Int32) (x8 : Int32) (h : Hp) (r : Unit × Hp), k152 x0 x1 x2 x3 x7 x8 h = some r → pX10_appends_152 D cy s0 p l e s m args below meth c r x0 x1 x2 x3 x7 x8 h) : ∀ (x0 : Nat) (x1 : Int32) (x2 : Int32) (x3 : Int32) (x7 : Int32) (x8 : Int32) (h : Hp) (r : Unit × Hp), fX10_appends_225 k152 x0 x1 x2 x3 x7 x8 h = some r → pX10_appends_225 D cy s0 p l e s m args below meth c r x0 x1 x2 x3 x7 x8 h := by
  intro x0 x1 x2 x3 x7 x8 h ⟨rv, rh⟩ hf H locs ls cells slots hc hs hw hl
  unfold fX10_appends_225 at hf
  have hx := C.1
  have hb := C.2.1
  refine lv_iinc (v := (x8 + (1 : Int32))) (lv' := [(8, .int (x8 + (1 : Int32))), (0, .ref x0), (1, .int x1), (2, .int x2), (3, .int x3), (7, .int x7)]) hx hb dX10_appends_225 hl (k := 5) rfl rfl (by decide) rfl (fun ls hl => ?_)
  refine lv_goto (tgt := 152) hx hb dX10_appends_228 (by decide) ?_
  exact hk152 _ _ _ _ _ _ _ _ hf _ _ _ _ _ (by omega) (by omega) hw (lv_sub hl [1, 2, 3, 4, 5, 0] rfl)
set_option maxRecDepth 100000 in
set_option maxHeartbeats 4000000 in
theorem bX10_appends_208 {D : va_G} {cy : Nat → ClassId} {s0 : Nat} {p : Program} {l : Launch} {e : Env} {s : State} {m : MethodId} {args : Array Value} {below : List Frame} {meth : Method} {c : Code} (C : CX D cy s0 p s m args meth c cX10_appends 10 RX10 none) (hn : meth.name = "appends") {k152 : Nat → Int32 → Int32 → Int32 → Int32 → Int32 → Hp → Option (Unit × Hp)} (hk152 : ∀ (x0 : Nat) (x1 : Int32) (x2 : Int32) (x3 : Int32) (x7 : Int32) (x8 : Int32) (h : Hp) (r : Unit × Hp), k152 x0 x1 x2 x3 x7 x8 h = some r → pX10_appends_152 D cy s0 p l e s m args below meth c r x0 x1 x2 x3 x7 x8 h) : ∀ (x0 : Nat) (x1 : Int32) (x2 : Int32) (x3 : Int32) (x7 : Int32) (x8 : Int32) (x9 : Int32) (h : Hp) (r : Unit × Hp), fX10_appends_208 k152 x0 x1 x2 x3 x7 x8 x9 h = some r → pX10_appends_208 D cy s0 p l e s m args below meth c r x0 x1 x2 x3 x7 x8 x9 h := by
  intro x0 x1 x2 x3 x7 x8 x9 h ⟨rv, rh⟩ hf H locs ls cells slots hc hs hw hl
  unfold fX10_appends_208 at hf
  have hx := C.1
  have hb := C.2.1
  refine lv_aload_n hx hb dX10_appends_208 rfl (lv_at hl 0 rfl) ?_
  refine lv_iload_n hx hb dX10_appends_209 rfl (lv_at hl 2 rfl) ?_
  refine lv_iload hx hb dX10_appends_210 (lv_at hl 4 rfl) ?_
  refine lv_aload_n hx hb dX10_appends_212 rfl (lv_at hl 0 rfl) ?_
  obtain ⟨z1, e1, hf⟩ := ob hf
  refine r_gR C hw e1 ck10 rfl (by decide) w986 dX10_appends_213 ?_
  cases z1 with
  | none =>
    have hf := on_n hf
    cases hf
  | some a2 =>
    have hf := on_s hf
    refine W.eq (g2 := F0 m 216 ls [.ref a2, .int x7, .int x2, .ref x0]) rfl ?_
    refine lv_iload hx hb dX10_appends_216 (lv_at hl 6 rfl) ?_
    obtain ⟨kb3, hf⟩ := ig hf
    obtain ⟨z3, h3, e3, hf⟩ := ob2 hf
    refine r_callV C hw (mX10_comes e3) kXX10_comes ck10 rfl kb3 w1180 w1182 v46 ⟨Nat.le_of_ble_eq_true rfl, Nat.le_of_ble_eq_true rfl⟩ rfl hl.1 (rest := []) rfl (Nat.le_of_ble_eq_true rfl) dX10_appends_218 (mc := 0) (ms := 0) rfl rfl ⟨by show _ + 0 ≤ 0; omega, by show _ + 0 ≤ 0; omega⟩ (fun H locs hw => ?_)
    refine W.eq (g2 := F0 m 221 ls [.int z3]) rfl ?_
    refine lv_if_ne (tgt := 225) hx hb dX10_appends_221 (by decide) (fun c4 => ?_) (fun c4 => ?_)
    · have hf := ie hf c4
      exact bX10_appends_225 C hn hk152 _ _ _ _ _ _ _ _ hf _ _ _ _ _ (by omega) (by omega) hw (lv_sub hl [0, 1, 2, 3, 4, 5] rfl)
    · have hf := ip hf c4
      obtain ⟨rfl, rfl⟩ := sp hf
      exact r_vret C hw rfl (by omega) (by omega) dX10_appends_224
set_option maxRecDepth 100000 in
set_option maxHeartbeats 4000000 in
theorem bX10_appends_152_body {D : va_G} {cy : Nat → ClassId} {s0 : Nat} {p : Program} {l : Launch} {e : Env} {s : State} {m : MethodId} {args : Array Value} {below : List Frame} {meth : Method} {c : Code} (C : CX D cy s0 p s m args meth c cX10_appends 10 RX10 none) (hn : meth.name = "appends") {k152 : Nat → Int32 → Int32 → Int32 → Int32 → Int32 → Hp → Option (Unit × Hp)} (hk152 : ∀ (x0 : Nat) (x1 : Int32) (x2 : Int32) (x3 : Int32) (x7 : Int32) (x8 : Int32) (h : Hp) (r : Unit × Hp), k152 x0 x1 x2 x3 x7 x8 h = some r → pX10_appends_152 D cy s0 p l e s m args below meth c r x0 x1 x2 x3 x7 x8 h) : ∀ (x0 : Nat) (x1 : Int32) (x2 : Int32) (x3 : Int32) (x7 : Int32) (x8 : Int32) (h : Hp) (r : Unit × Hp), fX10_appends_152_body k152 x0 x1 x2 x3 x7 x8 h = some r → pX10_appends_152 D cy s0 p l e s m args below meth c r x0 x1 x2 x3 x7 x8 h := by
  intro x0 x1 x2 x3 x7 x8 h ⟨rv, rh⟩ hf H locs ls cells slots hc hs hw hl
  unfold fX10_appends_152_body at hf
  have hx := C.1
  have hb := C.2.1
  refine lv_iload hx hb dX10_appends_152 (lv_at hl 5 rfl) ?_
  refine lv_aload_n hx hb dX10_appends_154 rfl (lv_at hl 0 rfl) ?_
  obtain ⟨z1, e1, hf⟩ := ob hf
  refine r_gR C hw e1 ck10 rfl (by decide) w984 dX10_appends_155 ?_
  cases z1 with
  | none =>
    have hf := on_n hf
    cases hf
  | some a2 =>
    have hf := on_s hf
    refine W.eq (g2 := F0 m 158 ls [.ref a2, .int x8]) rfl ?_
    refine lv_iload_n hx hb dX10_appends_158 rfl (lv_at hl 1 rfl) ?_
    obtain ⟨z3, e3, hf⟩ := ob hf
    refine r_iald C hw e3 dX10_appends_159 ?_
    refine lv_icmp_ge (tgt := 231) hx hb dX10_appends_160 (by decide) (fun c4 => ?_) (fun c4 => ?_)
    · have hf := ip hf c4
      refine lv_aload_n hx hb dX10_appends_231 rfl (lv_at hl 0 rfl) ?_
      obtain ⟨z5, e5, hf⟩ := ob hf
      refine r_gR C hw e5 ck10 rfl (by decide) w969 dX10_appends_232 ?_
      cases z5 with
      | none =>
        have hf := on_n hf
        cases hf
      | some a6 =>
        have hf := on_s hf
        refine W.eq (g2 := F0 m 235 ls [.ref a6]) rfl ?_
        refine lv_iload_n hx hb dX10_appends_235 rfl (lv_at hl 2 rfl) ?_
        refine lv_aload_n hx hb dX10_appends_236 rfl (lv_at hl 0 rfl) ?_
        obtain ⟨z7, e7, hf⟩ := ob hf
        refine r_gR C hw e7 ck10 rfl (by decide) w969 dX10_appends_237 ?_
        cases z7 with
        | none =>
          have hf := on_n hf
          cases hf
        | some a8 =>
          have hf := on_s hf
          refine W.eq (g2 := F0 m 240 ls [.ref a8, .int x2, .ref a6]) rfl ?_
          refine lv_iload_n hx hb dX10_appends_240 rfl (lv_at hl 2 rfl) ?_
          obtain ⟨z9, e9, hf⟩ := ob hf
          refine r_iald C hw e9 dX10_appends_241 ?_
          refine lv_aload_n hx hb dX10_appends_242 rfl (lv_at hl 0 rfl) ?_
          obtain ⟨z10, e10, hf⟩ := ob hf
          refine r_gR C hw e10 ck10 rfl (by decide) w985 dX10_appends_243 ?_
          cases z10 with
          | none =>
            have hf := on_n hf
            cases hf
          | some a11 =>
            have hf := on_s hf
            refine W.eq (g2 := F0 m 246 ls [.ref a11, .int z9, .int x2, .ref a6]) rfl ?_
            refine lv_iload_n hx hb dX10_appends_246 rfl (lv_at hl 1 rfl) ?_
            obtain ⟨z12, e12, hf⟩ := ob hf
            refine r_iald C hw e12 dX10_appends_247 ?_
            refine lv_iload hx hb dX10_appends_248 (lv_at hl 4 rfl) ?_
            refine va_mmin hx hb (by rw [C.2.2.1]; exact hl.1.symm) C.2.2.2.1 (C.2.2.2.2.1 _ w1192) (C.2.2.2.2.1 _ w566) (C.2.2.2.2.1 _ w18) (C.2.2.2.2.1 _ w567) (Nat.le_of_ble_eq_true rfl) (Nat.le_of_ble_eq_true rfl) (by show _ ≤ 0; omega) (by show _ ≤ 0; omega) dX10_appends_250 ?_
            refine W.eq (g2 := F0 m 253 ls [.int (mn z12 x7), .int z9, .int x2, .ref a6]) rfl ?_
            refine va_mmax hx hb (by rw [C.2.2.1]; exact hl.1.symm) C.2.2.2.1 (C.2.2.2.2.1 _ w1197) (C.2.2.2.2.1 _ w569) (C.2.2.2.2.1 _ w18) (C.2.2.2.2.1 _ w570) (Nat.le_of_ble_eq_true rfl) (Nat.le_of_ble_eq_true rfl) (by show _ ≤ 0; omega) (by show _ ≤ 0; omega) dX10_appends_253 ?_
            refine W.eq (g2 := F0 m 256 ls [.int (mx z9 (mn z12 x7)), .int x2, .ref a6]) rfl ?_
            obtain ⟨h13, e13, hf⟩ := ob hf
            refine r_iast C hw e13 dX10_appends_256 (fun H locs hw => ?_)
            refine lv_aload_n hx hb dX10_appends_257 rfl (lv_at hl 0 rfl) ?_
            refine lv_iconst (v := (3 : Int32)) hx hb dX10_appends_258 (by decide) ?_
            refine lv_iload_n hx hb dX10_appends_259 rfl (lv_at hl 2 rfl) ?_
            refine lv_iload_n hx hb dX10_appends_260 rfl (lv_at hl 3 rfl) ?_
            refine lv_iload hx hb dX10_appends_261 (lv_at hl 4 rfl) ?_
            refine lv_aload_n hx hb dX10_appends_263 rfl (lv_at hl 0 rfl) ?_
            obtain ⟨z14, e14, hf⟩ := ob hf
            refine r_gR C hw e14 ck10 rfl (by decide) w967 dX10_appends_264 ?_
            cases z14 with
            | none =>
              have hf := on_n hf
              cases hf
            | some a15 =>
              have hf := on_s hf
              refine W.eq (g2 := F0 m 267 ls [.ref a15, .int x7, .int x3, .int x2, .int (3 : Int32), .ref x0]) rfl ?_
              refine lv_iload_n hx hb dX10_appends_267 rfl (lv_at hl 2 rfl) ?_
              obtain ⟨z16, e16, hf⟩ := ob hf
              refine r_iald C hw e16 dX10_appends_268 ?_
              refine va_mmax hx hb (by rw [C.2.2.1]; exact hl.1.symm) C.2.2.2.1 (C.2.2.2.2.1 _ w1197) (C.2.2.2.2.1 _ w569) (C.2.2.2.2.1 _ w18) (C.2.2.2.2.1 _ w570) (Nat.le_of_ble_eq_true rfl) (Nat.le_of_ble_eq_true rfl) (by show _ ≤ 0; omega) (by show _ ≤ 0; omega) dX10_appends_269 ?_
              refine W.eq (g2 := F0 m 272 ls [.int (mx x7 z16), .int x3, .int x2, .int (3 : Int32), .ref x0]) rfl ?_
              obtain ⟨kb17, hf⟩ := ig hf
              obtain ⟨z17, h17, e17, hf⟩ := ob2 hf
              refine r_callV C hw (mX10_answer e17) kXX10_answer ck10 rfl kb17 w1164 w1166 v42 ⟨Nat.le_of_ble_eq_true rfl, Nat.le_of_ble_eq_true rfl⟩ rfl hl.1 (rest := []) rfl (Nat.le_of_ble_eq_true rfl) dX10_appends_272 (mc := 0) (ms := 0) rfl rfl ⟨by show _ + 0 ≤ 0; omega, by show _ + 0 ≤ 0; omega⟩ (fun H locs hw => ?_)
              refine W.eq (g2 := F0 m 275 ls []) rfl ?_
              obtain ⟨rfl, rfl⟩ := sp hf
              exact r_vret C hw rfl (by omega) (by omega) dX10_appends_275
    · have hf := ie hf c4
      refine lv_iinc (v := (x7 + (1 : Int32))) (lv' := [(7, .int (x7 + (1 : Int32))), (0, .ref x0), (1, .int x1), (2, .int x2), (3, .int x3), (8, .int x8)]) hx hb dX10_appends_163 hl (k := 4) rfl rfl (by decide) rfl (fun ls hl => ?_)
      refine lv_iload_n hx hb dX10_appends_166 rfl (lv_at hl 2 rfl) ?_
      refine lv_iconst (v := (4 : Int32)) hx hb dX10_appends_167 (by decide) ?_
      refine lv_imul hx hb dX10_appends_168 ?_
      refine lv_iload hx hb dX10_appends_169 (lv_at hl 5 rfl) ?_
      refine lv_iadd hx hb dX10_appends_171 ?_
      refine lv_bipush (v := (8 : Int32)) hx hb dX10_appends_172 (by decide) ?_
      refine lv_imul hx hb dX10_appends_174 ?_
      refine lv_istore (lv' := [(9, .int (((x1 * (4 : Int32)) + x8) * (8 : Int32))), (7, .int (x7 + (1 : Int32))), (0, .ref x0), (1, .int x1), (2, .int x2), (3, .int x3), (8, .int x8)]) hx hb dX10_appends_175 hl (by decide) rfl (fun ls hl => ?_)
      refine lv_iload hx hb dX10_appends_177 (lv_at hl 1 rfl) ?_
      refine lv_aload_n hx hb dX10_appends_179 rfl (lv_at hl 2 rfl) ?_
      obtain ⟨z24, e24, hf⟩ := ob hf
      refine r_gR C hw e24 ck10 rfl (by decide) w968 dX10_appends_180 ?_
      cases z24 with
      | none =>
        have hf := on_n hf
        cases hf
      | some a25 =>
        have hf := on_s hf
        refine W.eq (g2 := F0 m 183 ls [.ref a25, .int (x7 + (1 : Int32))]) rfl ?_
        refine lv_iload_n hx hb dX10_appends_183 rfl (lv_at hl 4 rfl) ?_
        obtain ⟨z26, e26, hf⟩ := ob hf
        refine r_iald C hw e26 dX10_appends_184 ?_
        refine lv_icmp_gt (tgt := 208) hx hb dX10_appends_185 (by decide) (fun c27 => ?_) (fun c27 => ?_)
        · have hf := ip hf c27
          exact bX10_appends_208 C hn hk152 _ _ _ _ _ _ _ _ _ hf _ _ _ _ _ (by omega) (by omega) hw (lv_sub hl [2, 3, 4, 5, 1, 6, 0] rfl)
        · have hf := ie hf c27
          refine lv_aload_n hx hb dX10_appends_188 rfl (lv_at hl 2 rfl) ?_
          refine lv_iload_n hx hb dX10_appends_189 rfl (lv_at hl 4 rfl) ?_
          refine lv_iload hx hb dX10_appends_190 (lv_at hl 1 rfl) ?_
          obtain ⟨kb28, hf⟩ := ig hf
          obtain ⟨z28, h28, e28, hf⟩ := ob2 hf
          refine r_callV C hw (mX10_termAt e28) kXX10_termAt ck10 rfl kb28 w1148 w1150 v39 ⟨Nat.le_of_ble_eq_true rfl, Nat.le_of_ble_eq_true rfl⟩ rfl hl.1 (rest := []) rfl (Nat.le_of_ble_eq_true rfl) dX10_appends_192 (mc := 0) (ms := 0) rfl rfl ⟨by show _ + 0 ≤ 0; omega, by show _ + 0 ≤ 0; omega⟩ (fun H locs hw => ?_)
          refine W.eq (g2 := F0 m 195 ls [.int z28]) rfl ?_
          refine lv_aload_n hx hb dX10_appends_195 rfl (lv_at hl 2 rfl) ?_
          obtain ⟨z29, e29, hf⟩ := ob hf
          refine r_gR C hw e29 ck10 rfl (by decide) w986 dX10_appends_196 ?_
          cases z29 with
          | none =>
            have hf := on_n hf
            cases hf
          | some a30 =>
            have hf := on_s hf
            refine W.eq (g2 := F0 m 199 ls [.ref a30, .int z28]) rfl ?_
            refine lv_iload hx hb dX10_appends_199 (lv_at hl 0 rfl) ?_
            obtain ⟨z31, e31, hf⟩ := ob hf
            refine r_iald C hw e31 dX10_appends_201 ?_
            refine lv_icmp_ne (tgt := 208) hx hb dX10_appends_202 (by decide) (fun c32 => ?_) (fun c32 => ?_)
            · have hf := ie hf c32
              exact bX10_appends_208 C hn hk152 _ _ _ _ _ _ _ _ _ hf _ _ _ _ _ (by omega) (by omega) hw (lv_sub hl [2, 3, 4, 5, 1, 6, 0] rfl)
            · have hf := ip hf c32
              refine lv_goto (tgt := 225) hx hb dX10_appends_205 (by decide) ?_
              exact bX10_appends_225 C hn hk152 _ _ _ _ _ _ _ _ hf _ _ _ _ _ (by omega) (by omega) hw (lv_sub hl [2, 3, 4, 5, 1, 6] rfl)
set_option maxRecDepth 100000 in
set_option maxHeartbeats 4000000 in
theorem bX10_appends_152 {D : va_G} {cy : Nat → ClassId} {s0 : Nat} {p : Program} {l : Launch} {e : Env} {s : State} {m : MethodId} {args : Array Value} {below : List Frame} {meth : Method} {c : Code} (C : CX D cy s0 p s m args meth c cX10_appends 10 RX10 none) (hn : meth.name = "appends") : ∀ (n : Nat) (x0 : Nat) (x1 : Int32) (x2 : Int32) (x3 : Int32) (x7 : Int32) (x8 : Int32) (h : Hp) (r : Unit × Hp), fX10_appends_152 n x0 x1 x2 x3 x7 x8 h = some r → pX10_appends_152 D cy s0 p l e s m args below meth c r x0 x1 x2 x3 x7 x8 h := by
  intro n
  induction n with
  | zero => intro x0 x1 x2 x3 x7 x8 h r hf; exact absurd hf (fun q => by cases q)
  | succ n ih => exact bX10_appends_152_body C hn ih
set_option maxRecDepth 100000 in
set_option maxHeartbeats 4000000 in
theorem bX10_appends_144 {D : va_G} {cy : Nat → ClassId} {s0 : Nat} {p : Program} {l : Launch} {e : Env} {s : State} {m : MethodId} {args : Array Value} {below : List Frame} {meth : Method} {c : Code} (C : CX D cy s0 p s m args meth c cX10_appends 10 RX10 none) (hn : meth.name = "appends") : ∀ (x0 : Nat) (x1 : Int32) (x2 : Int32) (x3 : Int32) (x4 : Int32) (x5 : Int32) (h : Hp) (r : Unit × Hp), fX10_appends_144 x0 x1 x2 x3 x4 x5 h = some r → pX10_appends_144 D cy s0 p l e s m args below meth c r x0 x1 x2 x3 x4 x5 h := by
  intro x0 x1 x2 x3 x4 x5 h ⟨rv, rh⟩ hf H locs ls cells slots hc hs hw hl
  unfold fX10_appends_144 at hf
  have hx := C.1
  have hb := C.2.1
  refine lv_iload hx hb dX10_appends_144 (lv_at hl 4 rfl) ?_
  refine lv_istore (lv' := [(7, .int x4), (0, .ref x0), (1, .int x1), (2, .int x2), (3, .int x3), (4, .int x4), (5, .int x5)]) hx hb dX10_appends_146 hl (by decide) rfl (fun ls hl => ?_)
  refine lv_iload hx hb dX10_appends_148 (lv_at hl 6 rfl) ?_
  refine lv_istore (lv' := [(8, .int x5), (7, .int x4), (0, .ref x0), (1, .int x1), (2, .int x2), (3, .int x3), (4, .int x4), (5, .int x5)]) hx hb dX10_appends_150 hl (by decide) rfl (fun ls hl => ?_)
  exact bX10_appends_152 C hn LF _ _ _ _ _ _ _ _ hf _ _ _ _ _ (by omega) (by omega) hw (lv_sub hl [2, 3, 4, 5, 1, 0] rfl)
set_option maxRecDepth 100000 in
set_option maxHeartbeats 4000000 in
theorem bX10_appends_86 {D : va_G} {cy : Nat → ClassId} {s0 : Nat} {p : Program} {l : Launch} {e : Env} {s : State} {m : MethodId} {args : Array Value} {below : List Frame} {meth : Method} {c : Code} (C : CX D cy s0 p s m args meth c cX10_appends 10 RX10 none) (hn : meth.name = "appends") : ∀ (x0 : Nat) (x1 : Int32) (x2 : Int32) (x3 : Int32) (x4 : Int32) (x5 : Int32) (x6 : Int32) (h : Hp) (r : Unit × Hp), fX10_appends_86 x0 x1 x2 x3 x4 x5 x6 h = some r → pX10_appends_86 D cy s0 p l e s m args below meth c r x0 x1 x2 x3 x4 x5 x6 h := by
  intro x0 x1 x2 x3 x4 x5 x6 h ⟨rv, rh⟩ hf H locs ls cells slots hc hs hw hl
  unfold fX10_appends_86 at hf
  have hx := C.1
  have hb := C.2.1
  refine lv_iload hx hb dX10_appends_86 (lv_at hl 4 rfl) ?_
  refine lv_aload_n hx hb dX10_appends_88 rfl (lv_at hl 0 rfl) ?_
  obtain ⟨z1, e1, hf⟩ := ob hf
  refine r_gR C hw e1 ck10 rfl (by decide) w968 dX10_appends_89 ?_
  cases z1 with
  | none =>
    have hf := on_n hf
    cases hf
  | some a2 =>
    have hf := on_s hf
    refine W.eq (g2 := F0 m 92 ls [.ref a2, .int x4]) rfl ?_
    refine lv_iload_n hx hb dX10_appends_92 rfl (lv_at hl 2 rfl) ?_
    obtain ⟨z3, e3, hf⟩ := ob hf
    refine r_iald C hw e3 dX10_appends_93 ?_
    refine lv_icmp_le (tgt := 111) hx hb dX10_appends_94 (by decide) (fun c4 => ?_) (fun c4 => ?_)
    · have hf := ip hf c4
      refine lv_iload hx hb dX10_appends_111 (lv_at hl 6 rfl) ?_
      refine lv_if_ne (tgt := 144) hx hb dX10_appends_113 (by decide) (fun c5 => ?_) (fun c5 => ?_)
      · have hf := ie hf c5
        exact bX10_appends_144 C hn _ _ _ _ _ _ _ _ hf _ _ _ _ _ (by omega) (by omega) hw (lv_sub hl [0, 1, 2, 3, 4, 5] rfl)
      · have hf := ip hf c5
        refine lv_aload_n hx hb dX10_appends_116 rfl (lv_at hl 0 rfl) ?_
        refine lv_iload_n hx hb dX10_appends_117 rfl (lv_at hl 2 rfl) ?_
        refine lv_iload hx hb dX10_appends_118 (lv_at hl 4 rfl) ?_
        obtain ⟨kb6, hf⟩ := ig hf
        obtain ⟨z6, h6, e6, hf⟩ := ob2 hf
        refine r_callV C hw (mX10_termAt e6) kXX10_termAt ck10 rfl kb6 w1148 w1150 v39 ⟨Nat.le_of_ble_eq_true rfl, Nat.le_of_ble_eq_true rfl⟩ rfl hl.1 (rest := []) rfl (Nat.le_of_ble_eq_true rfl) dX10_appends_120 (mc := 0) (ms := 0) rfl rfl ⟨by show _ + 0 ≤ 0; omega, by show _ + 0 ≤ 0; omega⟩ (fun H locs hw => ?_)
        refine W.eq (g2 := F0 m 123 ls [.int z6]) rfl ?_
        refine lv_aload_n hx hb dX10_appends_123 rfl (lv_at hl 0 rfl) ?_
        obtain ⟨z7, e7, hf⟩ := ob hf
        refine r_gR C hw e7 ck10 rfl (by decide) w983 dX10_appends_124 ?_
        cases z7 with
        | none =>
          have hf := on_n hf
          cases hf
        | some a8 =>
          have hf := on_s hf
          refine W.eq (g2 := F0 m 127 ls [.ref a8, .int z6]) rfl ?_
          refine lv_iload_n hx hb dX10_appends_127 rfl (lv_at hl 1 rfl) ?_
          obtain ⟨z9, e9, hf⟩ := ob hf
          refine r_iald C hw e9 dX10_appends_128 ?_
          refine lv_icmp_eq (tgt := 144) hx hb dX10_appends_129 (by decide) (fun c10 => ?_) (fun c10 => ?_)
          · have hf := ip hf c10
            exact bX10_appends_144 C hn _ _ _ _ _ _ _ _ hf _ _ _ _ _ (by omega) (by omega) hw (lv_sub hl [0, 1, 2, 3, 4, 5] rfl)
          · have hf := ie hf c10
            refine lv_aload_n hx hb dX10_appends_132 rfl (lv_at hl 0 rfl) ?_
            refine lv_iconst (v := (4 : Int32)) hx hb dX10_appends_133 (by decide) ?_
            refine lv_iload_n hx hb dX10_appends_134 rfl (lv_at hl 2 rfl) ?_
            refine lv_iload_n hx hb dX10_appends_135 rfl (lv_at hl 3 rfl) ?_
            refine lv_iload hx hb dX10_appends_136 (lv_at hl 4 rfl) ?_
            refine lv_iconst (v := (1 : Int32)) hx hb dX10_appends_138 (by decide) ?_
            refine lv_isub hx hb dX10_appends_139 ?_
            obtain ⟨kb11, hf⟩ := ig hf
            obtain ⟨z11, h11, e11, hf⟩ := ob2 hf
            refine r_callV C hw (mX10_answer e11) kXX10_answer ck10 rfl kb11 w1164 w1166 v42 ⟨Nat.le_of_ble_eq_true rfl, Nat.le_of_ble_eq_true rfl⟩ rfl hl.1 (rest := []) rfl (Nat.le_of_ble_eq_true rfl) dX10_appends_140 (mc := 0) (ms := 0) rfl rfl ⟨by show _ + 0 ≤ 0; omega, by show _ + 0 ≤ 0; omega⟩ (fun H locs hw => ?_)
            refine W.eq (g2 := F0 m 143 ls []) rfl ?_
            obtain ⟨rfl, rfl⟩ := sp hf
            exact r_vret C hw rfl (by omega) (by omega) dX10_appends_143
    · have hf := ie hf c4
      refine lv_aload_n hx hb dX10_appends_97 rfl (lv_at hl 0 rfl) ?_
      refine lv_iconst (v := (4 : Int32)) hx hb dX10_appends_98 (by decide) ?_
      refine lv_iload_n hx hb dX10_appends_99 rfl (lv_at hl 2 rfl) ?_
      refine lv_iload_n hx hb dX10_appends_100 rfl (lv_at hl 3 rfl) ?_
      refine lv_aload_n hx hb dX10_appends_101 rfl (lv_at hl 0 rfl) ?_
      obtain ⟨z12, e12, hf⟩ := ob hf
      refine r_gR C hw e12 ck10 rfl (by decide) w968 dX10_appends_102 ?_
      cases z12 with
      | none =>
        have hf := on_n hf
        cases hf
      | some a13 =>
        have hf := on_s hf
        refine W.eq (g2 := F0 m 105 ls [.ref a13, .int x3, .int x2, .int (4 : Int32), .ref x0]) rfl ?_
        refine lv_iload_n hx hb dX10_appends_105 rfl (lv_at hl 2 rfl) ?_
        obtain ⟨z14, e14, hf⟩ := ob hf
        refine r_iald C hw e14 dX10_appends_106 ?_
        obtain ⟨kb15, hf⟩ := ig hf
        obtain ⟨z15, h15, e15, hf⟩ := ob2 hf
        refine r_callV C hw (mX10_answer e15) kXX10_answer ck10 rfl kb15 w1164 w1166 v42 ⟨Nat.le_of_ble_eq_true rfl, Nat.le_of_ble_eq_true rfl⟩ rfl hl.1 (rest := []) rfl (Nat.le_of_ble_eq_true rfl) dX10_appends_107 (mc := 0) (ms := 0) rfl rfl ⟨by show _ + 0 ≤ 0; omega, by show _ + 0 ≤ 0; omega⟩ (fun H locs hw => ?_)
        refine W.eq (g2 := F0 m 110 ls []) rfl ?_
        obtain ⟨rfl, rfl⟩ := sp hf
        exact r_vret C hw rfl (by omega) (by omega) dX10_appends_110
set_option maxRecDepth 100000 in
set_option maxHeartbeats 4000000 in
theorem bX10_appends_67 {D : va_G} {cy : Nat → ClassId} {s0 : Nat} {p : Program} {l : Launch} {e : Env} {s : State} {m : MethodId} {args : Array Value} {below : List Frame} {meth : Method} {c : Code} (C : CX D cy s0 p s m args meth c cX10_appends 10 RX10 none) (hn : meth.name = "appends") : ∀ (x0 : Nat) (x1 : Int32) (x2 : Int32) (x3 : Int32) (x4 : Int32) (x5 : Int32) (x6 : Int32) (h : Hp) (r : Unit × Hp), fX10_appends_67 x0 x1 x2 x3 x4 x5 x6 h = some r → pX10_appends_67 D cy s0 p l e s m args below meth c r x0 x1 x2 x3 x4 x5 x6 h := by
  intro x0 x1 x2 x3 x4 x5 x6 h ⟨rv, rh⟩ hf H locs ls cells slots hc hs hw hl
  unfold fX10_appends_67 at hf
  have hx := C.1
  have hb := C.2.1
  refine lv_iload hx hb dX10_appends_67 (lv_at hl 4 rfl) ?_
  refine lv_aload_n hx hb dX10_appends_69 rfl (lv_at hl 0 rfl) ?_
  obtain ⟨z1, e1, hf⟩ := ob hf
  refine r_gR C hw e1 ck10 rfl (by decide) w967 dX10_appends_70 ?_
  cases z1 with
  | none =>
    have hf := on_n hf
    cases hf
  | some a2 =>
    have hf := on_s hf
    refine W.eq (g2 := F0 m 73 ls [.ref a2, .int x4]) rfl ?_
    refine lv_iload_n hx hb dX10_appends_73 rfl (lv_at hl 2 rfl) ?_
    obtain ⟨z3, e3, hf⟩ := ob hf
    refine r_iald C hw e3 dX10_appends_74 ?_
    refine lv_icmp_ge (tgt := 86) hx hb dX10_appends_75 (by decide) (fun c4 => ?_) (fun c4 => ?_)
    · have hf := ip hf c4
      exact bX10_appends_86 C hn _ _ _ _ _ _ _ _ _ hf _ _ _ _ _ (by omega) (by omega) hw (lv_sub hl [0, 1, 2, 3, 4, 5, 6] rfl)
    · have hf := ie hf c4
      refine lv_aload_n hx hb dX10_appends_78 rfl (lv_at hl 0 rfl) ?_
      obtain ⟨z5, e5, hf⟩ := ob hf
      refine r_gR C hw e5 ck10 rfl (by decide) w967 dX10_appends_79 ?_
      cases z5 with
      | none =>
        have hf := on_n hf
        cases hf
      | some a6 =>
        have hf := on_s hf
        refine W.eq (g2 := F0 m 82 ls [.ref a6]) rfl ?_
        refine lv_iload_n hx hb dX10_appends_82 rfl (lv_at hl 2 rfl) ?_
        obtain ⟨z7, e7, hf⟩ := ob hf
        refine r_iald C hw e7 dX10_appends_83 ?_
        refine lv_istore (lv' := [(4, .int z7), (0, .ref x0), (1, .int x1), (2, .int x2), (3, .int x3), (5, .int x5), (6, .int x6)]) hx hb dX10_appends_84 hl (by decide) rfl (fun ls hl => ?_)
        exact bX10_appends_86 C hn _ _ _ _ _ _ _ _ _ hf _ _ _ _ _ (by omega) (by omega) hw (lv_sub hl [1, 2, 3, 4, 0, 5, 6] rfl)
set_option maxRecDepth 100000 in
set_option maxHeartbeats 4000000 in
theorem bX10_appends_36_body {D : va_G} {cy : Nat → ClassId} {s0 : Nat} {p : Program} {l : Launch} {e : Env} {s : State} {m : MethodId} {args : Array Value} {below : List Frame} {meth : Method} {c : Code} (C : CX D cy s0 p s m args meth c cX10_appends 10 RX10 none) (hn : meth.name = "appends") {k36 : Nat → Int32 → Int32 → Int32 → Int32 → Int32 → Int32 → Hp → Option (Unit × Hp)} (hk36 : ∀ (x0 : Nat) (x1 : Int32) (x2 : Int32) (x3 : Int32) (x4 : Int32) (x5 : Int32) (x6 : Int32) (h : Hp) (r : Unit × Hp), k36 x0 x1 x2 x3 x4 x5 x6 h = some r → pX10_appends_36 D cy s0 p l e s m args below meth c r x0 x1 x2 x3 x4 x5 x6 h) : ∀ (x0 : Nat) (x1 : Int32) (x2 : Int32) (x3 : Int32) (x4 : Int32) (x5 : Int32) (x6 : Int32) (h : Hp) (r : Unit × Hp), fX10_appends_36_body k36 x0 x1 x2 x3 x4 x5 x6 h = some r → pX10_appends_36 D cy s0 p l e s m args below meth c r x0 x1 x2 x3 x4 x5 x6 h := by
  intro x0 x1 x2 x3 x4 x5 x6 h ⟨rv, rh⟩ hf H locs ls cells slots hc hs hw hl
  unfold fX10_appends_36_body at hf
  have hx := C.1
  have hb := C.2.1
  refine lv_iload hx hb dX10_appends_36 (lv_at hl 5 rfl) ?_
  refine lv_aload_n hx hb dX10_appends_38 rfl (lv_at hl 0 rfl) ?_
  obtain ⟨z1, e1, hf⟩ := ob hf
  refine r_gR C hw e1 ck10 rfl (by decide) w984 dX10_appends_39 ?_
  cases z1 with
  | none =>
    have hf := on_n hf
    cases hf
  | some a2 =>
    have hf := on_s hf
    refine W.eq (g2 := F0 m 42 ls [.ref a2, .int x5]) rfl ?_
    refine lv_iload_n hx hb dX10_appends_42 rfl (lv_at hl 1 rfl) ?_
    obtain ⟨z3, e3, hf⟩ := ob hf
    refine r_iald C hw e3 dX10_appends_43 ?_
    refine lv_icmp_ge (tgt := 67) hx hb dX10_appends_44 (by decide) (fun c4 => ?_) (fun c4 => ?_)
    · have hf := ip hf c4
      exact bX10_appends_67 C hn _ _ _ _ _ _ _ _ _ hf _ _ _ _ _ (by omega) (by omega) hw (lv_sub hl [0, 1, 2, 3, 4, 5, 6] rfl)
    · have hf := ie hf c4
      refine lv_iload hx hb dX10_appends_47 (lv_at hl 4 rfl) ?_
      refine lv_aload_n hx hb dX10_appends_49 rfl (lv_at hl 0 rfl) ?_
      obtain ⟨z5, e5, hf⟩ := ob hf
      refine r_gR C hw e5 ck10 rfl (by decide) w967 dX10_appends_50 ?_
      cases z5 with
      | none =>
        have hf := on_n hf
        cases hf
      | some a6 =>
        have hf := on_s hf
        refine W.eq (g2 := F0 m 53 ls [.ref a6, .int x4]) rfl ?_
        refine lv_iload_n hx hb dX10_appends_53 rfl (lv_at hl 2 rfl) ?_
        obtain ⟨z7, e7, hf⟩ := ob hf
        refine r_iald C hw e7 dX10_appends_54 ?_
        refine lv_icmp_ge (tgt := 67) hx hb dX10_appends_55 (by decide) (fun c8 => ?_) (fun c8 => ?_)
        · have hf := ip hf c8
          exact bX10_appends_67 C hn _ _ _ _ _ _ _ _ _ hf _ _ _ _ _ (by omega) (by omega) hw (lv_sub hl [0, 1, 2, 3, 4, 5, 6] rfl)
        · have hf := ie hf c8
          refine lv_iinc (v := (x4 + (1 : Int32))) (lv' := [(4, .int (x4 + (1 : Int32))), (0, .ref x0), (1, .int x1), (2, .int x2), (3, .int x3), (5, .int x5), (6, .int x6)]) hx hb dX10_appends_58 hl (k := 4) rfl rfl (by decide) rfl (fun ls hl => ?_)
          refine lv_iinc (v := (x5 + (1 : Int32))) (lv' := [(5, .int (x5 + (1 : Int32))), (4, .int (x4 + (1 : Int32))), (0, .ref x0), (1, .int x1), (2, .int x2), (3, .int x3), (6, .int x6)]) hx hb dX10_appends_61 hl (k := 5) rfl rfl (by decide) rfl (fun ls hl => ?_)
          refine lv_goto (tgt := 36) hx hb dX10_appends_64 (by decide) ?_
          exact hk36 _ _ _ _ _ _ _ _ _ hf _ _ _ _ _ (by omega) (by omega) hw (lv_sub hl [2, 3, 4, 5, 1, 0, 6] rfl)
set_option maxRecDepth 100000 in
set_option maxHeartbeats 4000000 in
theorem bX10_appends_36 {D : va_G} {cy : Nat → ClassId} {s0 : Nat} {p : Program} {l : Launch} {e : Env} {s : State} {m : MethodId} {args : Array Value} {below : List Frame} {meth : Method} {c : Code} (C : CX D cy s0 p s m args meth c cX10_appends 10 RX10 none) (hn : meth.name = "appends") : ∀ (n : Nat) (x0 : Nat) (x1 : Int32) (x2 : Int32) (x3 : Int32) (x4 : Int32) (x5 : Int32) (x6 : Int32) (h : Hp) (r : Unit × Hp), fX10_appends_36 n x0 x1 x2 x3 x4 x5 x6 h = some r → pX10_appends_36 D cy s0 p l e s m args below meth c r x0 x1 x2 x3 x4 x5 x6 h := by
  intro n
  induction n with
  | zero => intro x0 x1 x2 x3 x4 x5 x6 h r hf; exact absurd hf (fun q => by cases q)
  | succ n ih => exact bX10_appends_36_body C hn ih
set_option maxRecDepth 100000 in
set_option maxHeartbeats 4000000 in
theorem bX10_appends_34 {D : va_G} {cy : Nat → ClassId} {s0 : Nat} {p : Program} {l : Launch} {e : Env} {s : State} {m : MethodId} {args : Array Value} {below : List Frame} {meth : Method} {c : Code} (C : CX D cy s0 p s m args meth c cX10_appends 10 RX10 none) (hn : meth.name = "appends") : ∀ (x0 : Nat) (x1 : Int32) (x2 : Int32) (x3 : Int32) (x4 : Int32) (x5 : Int32) (y0 : Int32) (h : Hp) (r : Unit × Hp), fX10_appends_34 x0 x1 x2 x3 x4 x5 y0 h = some r → pX10_appends_34 D cy s0 p l e s m args below meth c r x0 x1 x2 x3 x4 x5 y0 h := by
  intro x0 x1 x2 x3 x4 x5 y0 h ⟨rv, rh⟩ hf H locs ls cells slots hc hs hw hl
  unfold fX10_appends_34 at hf
  have hx := C.1
  have hb := C.2.1
  refine lv_istore (lv' := [(6, .int y0), (0, .ref x0), (1, .int x1), (2, .int x2), (3, .int x3), (4, .int x4), (5, .int x5)]) hx hb dX10_appends_34 hl (by decide) rfl (fun ls hl => ?_)
  exact bX10_appends_36 C hn LF _ _ _ _ _ _ _ _ _ hf _ _ _ _ _ (by omega) (by omega) hw (lv_sub hl [1, 2, 3, 4, 5, 6, 0] rfl)
set_option maxRecDepth 100000 in
set_option maxHeartbeats 4000000 in
theorem bX10_appends {D : va_G} {cy : Nat → ClassId} {s0 : Nat} {p : Program} {l : Launch} {e : Env} {s : State} {m : MethodId} {args : Array Value} {below : List Frame} {meth : Method} {c : Code} (C : CX D cy s0 p s m args meth c cX10_appends 10 RX10 none) (hn : meth.name = "appends") : ∀ (x0 : Nat) (x1 : Int32) (x2 : Int32) (x3 : Int32) (h : Hp) (r : Unit × Hp), fX10_appends x0 x1 x2 x3 h = some r → pX10_appends D cy s0 p l e s m args below meth c r x0 x1 x2 x3 h := by
  intro x0 x1 x2 x3 h ⟨rv, rh⟩ hf H locs ls cells slots hc hs hw hl
  unfold fX10_appends at hf
  have hx := C.1
  have hb := C.2.1
  refine lv_aload_n hx hb dX10_appends_0 rfl (lv_at hl 0 rfl) ?_
  obtain ⟨z1, e1, hf⟩ := ob hf
  refine r_gR C hw e1 ck10 rfl (by decide) w971 dX10_appends_1 ?_
  cases z1 with
  | none =>
    have hf := on_n hf
    cases hf
  | some a2 =>
    have hf := on_s hf
    refine W.eq (g2 := F0 m 4 ls [.ref a2]) rfl ?_
    refine lv_iload_n hx hb dX10_appends_4 rfl (lv_at hl 2 rfl) ?_
    refine lv_iconst (v := (0 : Int32)) hx hb dX10_appends_5 (by decide) ?_
    obtain ⟨h3, e3, hf⟩ := ob hf
    refine r_iast C hw e3 dX10_appends_6 (fun H locs hw => ?_)
    refine lv_aload_n hx hb dX10_appends_7 rfl (lv_at hl 0 rfl) ?_
    obtain ⟨z4, e4, hf⟩ := ob hf
    refine r_gR C hw e4 ck10 rfl (by decide) w982 dX10_appends_8 ?_
    cases z4 with
    | none =>
      have hf := on_n hf
      cases hf
    | some a5 =>
      have hf := on_s hf
      refine W.eq (g2 := F0 m 11 ls [.ref a5]) rfl ?_
      refine lv_iload_n hx hb dX10_appends_11 rfl (lv_at hl 1 rfl) ?_
      obtain ⟨z6, e6, hf⟩ := ob hf
      refine r_iald C hw e6 dX10_appends_12 ?_
      refine lv_istore (lv' := [(4, .int z6), (0, .ref x0), (1, .int x1), (2, .int x2), (3, .int x3)]) hx hb dX10_appends_13 hl (by decide) rfl (fun ls hl => ?_)
      refine lv_iconst (v := (0 : Int32)) hx hb dX10_appends_15 (by decide) ?_
      refine lv_istore (lv' := [(5, .int (0 : Int32)), (4, .int z6), (0, .ref x0), (1, .int x1), (2, .int x2), (3, .int x3)]) hx hb dX10_appends_16 hl (by decide) rfl (fun ls hl => ?_)
      refine lv_iload hx hb dX10_appends_18 (lv_at hl 1 rfl) ?_
      refine lv_aload_n hx hb dX10_appends_20 rfl (lv_at hl 2 rfl) ?_
      obtain ⟨z7, e7, hf⟩ := ob hf
      refine r_gR C hw e7 ck10 rfl (by decide) w967 dX10_appends_21 ?_
      cases z7 with
      | none =>
        have hf := on_n hf
        cases hf
      | some a8 =>
        have hf := on_s hf
        refine W.eq (g2 := F0 m 24 ls [.ref a8, .int z6]) rfl ?_
        refine lv_iload_n hx hb dX10_appends_24 rfl (lv_at hl 4 rfl) ?_
        obtain ⟨z9, e9, hf⟩ := ob hf
        refine r_iald C hw e9 dX10_appends_25 ?_
        refine lv_icmp_ge (tgt := 33) hx hb dX10_appends_26 (by decide) (fun c10 => ?_) (fun c10 => ?_)
        · have hf := ip hf c10
          refine lv_iconst (v := (0 : Int32)) hx hb dX10_appends_33 (by decide) ?_
          exact bX10_appends_34 C hn _ _ _ _ _ _ _ _ _ hf _ _ _ _ _ (by omega) (by omega) hw (lv_sub hl [2, 3, 4, 5, 1, 0] rfl)
        · have hf := ie hf c10
          refine lv_iconst (v := (1 : Int32)) hx hb dX10_appends_29 (by decide) ?_
          refine lv_goto (tgt := 34) hx hb dX10_appends_30 (by decide) ?_
          exact bX10_appends_34 C hn _ _ _ _ _ _ _ _ _ hf _ _ _ _ _ (by omega) (by omega) hw (lv_sub hl [2, 3, 4, 5, 1, 0] rfl)
theorem kXX10_appends : MK yX10_appends cX10_appends 10 none 3 := ⟨w1196, w8, by decide +kernel⟩
theorem mX10_appends {D : va_G} {cy : Nat → ClassId} {s0 : Nat} {l : Launch} {x0 : Nat} {x1 : Int32} {x2 : Int32} {x3 : Int32} {h : Hp} {v : Unit} {h1 : Hp} (hf : fX10_appends x0 x1 x2 x3 h = some (v, h1)) : MT D cy s0 l yX10_appends cX10_appends 10 none rX10_appends [.ref x0, .int x1, .int x2, .int x3] h none h1 := by
  refine MT.of (by decide +kernel) (Nat.le_of_ble_eq_true rfl) ?_
  intro p e s m below meth c H locs ls C hn hw hl
  exact bX10_appends C hn _ _ _ _ _ _ hf _ _ _ _ _ (Nat.le_of_ble_eq_true rfl) (Nat.le_of_ble_eq_true rfl) hw hl
