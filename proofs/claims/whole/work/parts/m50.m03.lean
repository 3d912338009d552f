abbrev rX10_asked : Room := { frames := 2, cells := 0, slots := 0, locals := 48 }
abbrev pX10_asked_122 (D : va_G) (cy : Nat → ClassId) (s0 : Nat) (p : Program) (l : Launch) (e : Env) (s : State) (m : MethodId) (args : Array Value) (below : List Frame) (meth : Method) (c : Code) (r : Unit × Hp) (y0 : Int32) (y1 : Int32) (y2 : Int32) (y3 : Int32) (y4 : Nat) (h : Hp) : Prop := ∀ (H : Heap) (locs : List Loc) (ls : Array Slot) (cells slots : Nat), cells + (0) ≤ 0 → slots + (0) ≤ 0 → WS D cy s0 s h H locs → lv_has ls 6 [] → W p l e rX10_asked s m args below meth c H locs cells slots (MQ below (QQ D cy s0 none r.2) args s 0 0 (fun q => s0 ≤ q)) (F0 m 122 ls [.int y0, .int y1, .int y2, .int y3, .ref y4])
abbrev pX10_asked_108 (D : va_G) (cy : Nat → ClassId) (s0 : Nat) (p : Program) (l : Launch) (e : Env) (s : State) (m : MethodId) (args : Array Value) (below : List Frame) (meth : Method) (c : Code) (r : Unit × Hp) (x0 : Nat) (x2 : Int32) (x3 : Int32) (x5 : Int32) (h : Hp) : Prop := ∀ (H : Heap) (locs : List Loc) (ls : Array Slot) (cells slots : Nat), cells + (0) ≤ 0 → slots + (0) ≤ 0 → WS D cy s0 s h H locs → lv_has ls 6 [(0, .ref x0), (2, .int x2), (3, .int x3), (5, .int x5)] → W p l e rX10_asked s m args below meth c H locs cells slots (MQ below (QQ D cy s0 none r.2) args s 0 0 (fun q => s0 ≤ q)) (F0 m 108 ls [])
abbrev pX10_asked_75 (D : va_G) (cy : Nat → ClassId) (s0 : Nat) (p : Program) (l : Launch) (e : Env) (s : State) (m : MethodId) (args : Array Value) (below : List Frame) (meth : Method) (c : Code) (r : Unit × Hp) (x0 : Nat) (x2 : Int32) (x3 : Int32) (y0 : Int32) (h : Hp) : Prop := ∀ (H : Heap) (locs : List Loc) (ls : Array Slot) (cells slots : Nat), cells + (0) ≤ 0 → slots + (0) ≤ 0 → WS D cy s0 s h H locs → lv_has ls 6 [(0, .ref x0), (2, .int x2), (3, .int x3)] → W p l e rX10_asked s m args below meth c H locs cells slots (MQ below (QQ D cy s0 none r.2) args s 0 0 (fun q => s0 ≤ q)) (F0 m 75 ls [.int y0])
abbrev pX10_asked_74 (D : va_G) (cy : Nat → ClassId) (s0 : Nat) (p : Program) (l : Launch) (e : Env) (s : State) (m : MethodId) (args : Array Value) (below : List Frame) (meth : Method) (c : Code) (r : Unit × Hp) (x0 : Nat) (x2 : Int32) (x3 : Int32) (h : Hp) : Prop := ∀ (H : Heap) (locs : List Loc) (ls : Array Slot) (cells slots : Nat), cells + (0) ≤ 0 → slots + (0) ≤ 0 → WS D cy s0 s h H locs → lv_has ls 6 [(0, .ref x0), (2, .int x2), (3, .int x3)] → W p l e rX10_asked s m args below meth c H locs cells slots (MQ below (QQ D cy s0 none r.2) args s 0 0 (fun q => s0 ≤ q)) (F0 m 74 ls [])
abbrev pX10_asked_70 (D : va_G) (cy : Nat → ClassId) (s0 : Nat) (p : Program) (l : Launch) (e : Env) (s : State) (m : MethodId) (args : Array Value) (below : List Frame) (meth : Method) (c : Code) (r : Unit × Hp) (x0 : Nat) (x2 : Int32) (x3 : Int32) (h : Hp) : Prop := ∀ (H : Heap) (locs : List Loc) (ls : Array Slot) (cells slots : Nat), cells + (0) ≤ 0 → slots + (0) ≤ 0 → WS D cy s0 s h H locs → lv_has ls 6 [(0, .ref x0), (2, .int x2), (3, .int x3)] → W p l e rX10_asked s m args below meth c H locs cells slots (MQ below (QQ D cy s0 none r.2) args s 0 0 (fun q => s0 ≤ q)) (F0 m 70 ls [])
abbrev pX10_asked_33 (D : va_G) (cy : Nat → ClassId) (s0 : Nat) (p : Program) (l : Launch) (e : Env) (s : State) (m : MethodId) (args : Array Value) (below : List Frame) (meth : Method) (c : Code) (r : Unit × Hp) (x0 : Nat) (x1 : Int32) (x2 : Int32) (x3 : Int32) (x4 : Int32) (h : Hp) : Prop := ∀ (H : Heap) (locs : List Loc) (ls : Array Slot) (cells slots : Nat), cells + (0) ≤ 0 → slots + (0) ≤ 0 → WS D cy s0 s h H locs → lv_has ls 6 [(0, .ref x0), (1, .int x1), (2, .int x2), (3, .int x3), (4, .int x4)] → W p l e rX10_asked s m args below meth c H locs cells slots (MQ below (QQ D cy s0 none r.2) args s 0 0 (fun q => s0 ≤ q)) (F0 m 33 ls [])
abbrev pX10_asked (D : va_G) (cy : Nat → ClassId) (s0 : Nat) (p : Program) (l : Launch) (e : Env) (s : State) (m : MethodId) (args : Array Value) (below : List Frame) (meth : Method) (c : Code) (r : Unit × Hp) (x0 : Nat) (x1 : Int32) (x2 : Int32) (x3 : Int32) (h : Hp) : Prop := ∀ (H : Heap) (locs : List Loc) (ls : Array Slot) (cells slots : Nat), cells + (0) ≤ 0 → slots + (0) ≤ 0 → WS D cy s0 s h H locs → lv_has ls 6 [(0, .ref x0), (1, .int x1), (2, .int x2), (3, .int x3)] → W p l e rX10_asked s m args below meth c H locs cells slots (MQ below (QQ D cy s0 none r.2) args s 0 0 (fun q => s0 ≤ q)) (F0 m 0 ls [])
set_option maxRecDepth 100000 in
set_option maxHeartbeats 4000000 in
theorem bX10_asked_122 {D : va_G} {cy : Nat → ClassId} {s0 : Nat} {p : Program} {l : Launch} {e : Env} {s : State} {m : MethodId} {args : Array Value} {below : List Frame} {meth : Method} {c : Code} (C : CX D cy s0 p s m args meth c cX10_asked 6 RX10 none) (hn : meth.name = "asked") : ∀ (y0 : Int32) (y1 : Int32) (y2 : Int32) (y3 : Int32) (y4 : Nat) (h : Hp) (r : Unit × Hp), fX10_asked_122 y0 y1 y2 y3 y4 h = some r → pX10_asked_122 D cy s0 p l e s m args below meth c r y0 y1 y2 y3 y4 h := by
  intro y0 y1 y2 y3 y4 h ⟨rv, rh⟩ hf H locs ls cells slots hc hs hw hl
  unfold fX10_asked_122 at hf
  have hx := C.1
  have hb := C.2.1
  obtain ⟨kb1, hf⟩ := ig hf
  obtain ⟨z1, h1, e1, hf⟩ := ob2 hf
  refine r_callV C hw (mX10_answer e1) kXX10_answer ck10 rfl kb1 w1164 w1166 v42 ⟨Nat.le_of_ble_eq_true rfl, Nat.le_of_ble_eq_true rfl⟩ rfl hl.1 (rest := []) rfl (Nat.le_of_ble_eq_true rfl) dX10_asked_122 (mc := 0) (ms := 0) rfl rfl ⟨by show _ + 0 ≤ 0; omega, by show _ + 0 ≤ 0; omega⟩ (fun H locs hw => ?_)
  refine W.eq (g2 := F0 m 125 ls []) rfl ?_
  obtain ⟨rfl, rfl⟩ := sp hf
  exact r_vret C hw rfl (by omega) (by omega) dX10_asked_125
set_option maxRecDepth 100000 in
set_option maxHeartbeats 4000000 in
theorem bX10_asked_108 {D : va_G} {cy : Nat → ClassId} {s0 : Nat} {p : Program} {l : Launch} {e : Env} {s : State} {m : MethodId} {args : Array Value} {below : List Frame} {meth : Method} {c : Code} (C : CX D cy s0 p s m args meth c cX10_asked 6 RX10 none) (hn : meth.name = "asked") : ∀ (x0 : Nat) (x2 : Int32) (x3 : Int32) (x5 : Int32) (h : Hp) (r : Unit × Hp), fX10_asked_108 x0 x2 x3 x5 h = some r → pX10_asked_108 D cy s0 p l e s m args below meth c r x0 x2 x3 x5 h := by
  intro x0 x2 x3 x5 h ⟨rv, rh⟩ hf H locs ls cells slots hc hs hw hl
  unfold fX10_asked_108 at hf
  have hx := C.1
  have hb := C.2.1
  refine lv_aload_n hx hb dX10_asked_108 rfl (lv_at hl 0 rfl) ?_
  refine lv_iconst (v := (1 : Int32)) hx hb dX10_asked_109 (by decide) ?_
  refine lv_iload_n hx hb dX10_asked_110 rfl (lv_at hl 1 rfl) ?_
  refine lv_iload_n hx hb dX10_asked_111 rfl (lv_at hl 2 rfl) ?_
  refine lv_iload hx hb dX10_asked_112 (lv_at hl 3 rfl) ?_
  refine lv_if_eq (tgt := 121) hx hb dX10_asked_114 (by decide) (fun c1 => ?_) (fun c1 => ?_)
  · have hf := ip hf c1
    refine lv_iconst (v := (0 : Int32)) hx hb dX10_asked_121 (by decide) ?_
    exact bX10_asked_122 C hn _ _ _ _ _ _ _ hf _ _ _ _ _ (by omega) (by omega) hw (lv_sub hl [] rfl)
  · have hf := ie hf c1
    refine lv_iconst (v := (1 : Int32)) hx hb dX10_asked_117 (by decide) ?_
    refine lv_goto (tgt := 122) hx hb dX10_asked_118 (by decide) ?_
    exact bX10_asked_122 C hn _ _ _ _ _ _ _ hf _ _ _ _ _ (by omega) (by omega) hw (lv_sub hl [] rfl)
set_option maxRecDepth 100000 in
set_option maxHeartbeats 4000000 in
theorem bX10_asked_75 {D : va_G} {cy : Nat → ClassId} {s0 : Nat} {p : Program} {l : Launch} {e : Env} {s : State} {m : MethodId} {args : Array Value} {below : List Frame} {meth : Method} {c : Code} (C : CX D cy s0 p s m args meth c cX10_asked 6 RX10 none) (hn : meth.name = "asked") : ∀ (x0 : Nat) (x2 : Int32) (x3 : Int32) (y0 : Int32) (h : Hp) (r : Unit × Hp), fX10_asked_75 x0 x2 x3 y0 h = some r → pX10_asked_75 D cy s0 p l e s m args below meth c r x0 x2 x3 y0 h := by
  intro x0 x2 x3 y0 h ⟨rv, rh⟩ hf H locs ls cells slots hc hs hw hl
  unfold fX10_asked_75 at hf
  have hx := C.1
  have hb := C.2.1
  refine lv_istore (lv' := [(5, .int y0), (0, .ref x0), (2, .int x2), (3, .int x3)]) hx hb dX10_asked_75 hl (by decide) rfl (fun ls hl => ?_)
  refine lv_iload hx hb dX10_asked_77 (lv_at hl 0 rfl) ?_
  refine lv_if_eq (tgt := 108) hx hb dX10_asked_79 (by decide) (fun c1 => ?_) (fun c1 => ?_)
  · have hf := ip hf c1
    exact bX10_asked_108 C hn _ _ _ _ _ _ hf _ _ _ _ _ (by omega) (by omega) hw (lv_sub hl [1, 2, 3, 0] rfl)
  · have hf := ie hf c1
    refine lv_aload_n hx hb dX10_asked_82 rfl (lv_at hl 1 rfl) ?_
    obtain ⟨z2, e2, hf⟩ := ob hf
    refine r_gR C hw e2 ck10 rfl (by decide) w966 dX10_asked_83 ?_
    cases z2 with
    | none =>
      have hf := on_n hf
      cases hf
    | some a3 =>
      have hf := on_s hf
      refine W.eq (g2 := F0 m 86 ls [.ref a3]) rfl ?_
      refine lv_iload_n hx hb dX10_asked_86 rfl (lv_at hl 2 rfl) ?_
      obtain ⟨z4, e4, hf⟩ := ob hf
      refine r_iald C hw e4 dX10_asked_87 ?_
      refine lv_iload_n hx hb dX10_asked_88 rfl (lv_at hl 3 rfl) ?_
      refine lv_icmp_eq (tgt := 108) hx hb dX10_asked_89 (by decide) (fun c5 => ?_) (fun c5 => ?_)
      · have hf := ip hf c5
        exact bX10_asked_108 C hn _ _ _ _ _ _ hf _ _ _ _ _ (by omega) (by omega) hw (lv_sub hl [1, 2, 3, 0] rfl)
      · have hf := ie hf c5
        refine lv_aload_n hx hb dX10_asked_92 rfl (lv_at hl 1 rfl) ?_
        refine lv_iload_n hx hb dX10_asked_93 rfl (lv_at hl 2 rfl) ?_
        obtain ⟨kb6, hf⟩ := ig hf
        obtain ⟨z6, h6, e6, hf⟩ := ob2 hf
        refine r_callV C hw (mX10_record e6) kXX10_record ck10 rfl kb6 w1136 w1138 v36 ⟨Nat.le_of_ble_eq_true rfl, Nat.le_of_ble_eq_true rfl⟩ rfl hl.1 (rest := []) rfl (Nat.le_of_ble_eq_true rfl) dX10_asked_94 (mc := 0) (ms := 0) rfl rfl ⟨by show _ + 0 ≤ 0; omega, by show _ + 0 ≤ 0; omega⟩ (fun H locs hw => ?_)
        refine W.eq (g2 := F0 m 97 ls [.int z6]) rfl ?_
        refine lv_if_ne (tgt := 101) hx hb dX10_asked_97 (by decide) (fun c7 => ?_) (fun c7 => ?_)
        · have hf := ie hf c7
          refine lv_aload_n hx hb dX10_asked_101 rfl (lv_at hl 1 rfl) ?_
          obtain ⟨z8, e8, hf⟩ := ob hf
          refine r_gR C hw e8 ck10 rfl (by decide) w966 dX10_asked_102 ?_
          cases z8 with
          | none =>
            have hf := on_n hf
            cases hf
          | some a9 =>
            have hf := on_s hf
            refine W.eq (g2 := F0 m 105 ls [.ref a9]) rfl ?_
            refine lv_iload_n hx hb dX10_asked_105 rfl (lv_at hl 2 rfl) ?_
            refine lv_iload_n hx hb dX10_asked_106 rfl (lv_at hl 3 rfl) ?_
            obtain ⟨h10, e10, hf⟩ := ob hf
            refine r_iast C hw e10 dX10_asked_107 (fun H locs hw => ?_)
            exact bX10_asked_108 C hn _ _ _ _ _ _ hf _ _ _ _ _ (by omega) (by omega) hw (lv_sub hl [1, 2, 3, 0] rfl)
        · have hf := ip hf c7
          obtain ⟨rfl, rfl⟩ := sp hf
          exact r_vret C hw rfl (by omega) (by omega) dX10_asked_100
set_option maxRecDepth 100000 in
set_option maxHeartbeats 4000000 in
theorem bX10_asked_74 {D : va_G} {cy : Nat → ClassId} {s0 : Nat} {p : Program} {l : Launch} {e : Env} {s : State} {m : MethodId} {args : Array Value} {below : List Frame} {meth : Method} {c : Code} (C : CX D cy s0 p s m args meth c cX10_asked 6 RX10 none) (hn : meth.name = "asked") : ∀ (x0 : Nat) (x2 : Int32) (x3 : Int32) (h : Hp) (r : Unit × Hp), fX10_asked_74 x0 x2 x3 h = some r → pX10_asked_74 D cy s0 p l e s m args below meth c r x0 x2 x3 h := by
  intro x0 x2 x3 h ⟨rv, rh⟩ hf H locs ls cells slots hc hs hw hl
  unfold fX10_asked_74 at hf
  have hx := C.1
  have hb := C.2.1
  refine lv_iconst (v := (0 : Int32)) hx hb dX10_asked_74 (by decide) ?_
  exact bX10_asked_75 C hn _ _ _ _ _ _ hf _ _ _ _ _ (by omega) (by omega) hw (lv_sub hl [0, 1, 2] rfl)
set_option maxRecDepth 100000 in
set_option maxHeartbeats 4000000 in
theorem bX10_asked_70 {D : va_G} {cy : Nat → ClassId} {s0 : Nat} {p : Program} {l : Launch} {e : Env} {s : State} {m : MethodId} {args : Array Value} {below : List Frame} {meth : Method} {c : Code} (C : CX D cy s0 p s m args meth c cX10_asked 6 RX10 none) (hn : meth.name = "asked") : ∀ (x0 : Nat) (x2 : Int32) (x3 : Int32) (h : Hp) (r : Unit × Hp), fX10_asked_70 x0 x2 x3 h = some r → pX10_asked_70 D cy s0 p l e s m args below meth c r x0 x2 x3 h := by
  intro x0 x2 x3 h ⟨rv, rh⟩ hf H locs ls cells slots hc hs hw hl
  unfold fX10_asked_70 at hf
  have hx := C.1
  have hb := C.2.1
  refine lv_iconst (v := (1 : Int32)) hx hb dX10_asked_70 (by decide) ?_
  refine lv_goto (tgt := 75) hx hb dX10_asked_71 (by decide) ?_
  exact bX10_asked_75 C hn _ _ _ _ _ _ hf _ _ _ _ _ (by omega) (by omega) hw (lv_sub hl [0, 1, 2] rfl)
set_option maxRecDepth 100000 in
set_option maxHeartbeats 4000000 in
theorem bX10_asked_33 {D : va_G} {cy : Nat → ClassId} {s0 : Nat} {p : Program} {l : Launch} {e : Env} {s : State} {m : MethodId} {args : Array Value} {below : List Frame} {meth : Method} {c : Code} (C : CX D cy s0 p s m args meth c cX10_asked 6 RX10 none) (hn : meth.name = "asked") : ∀ (x0 : Nat) (x1 : Int32) (x2 : Int32) (x3 : Int32) (x4 : Int32) (h : Hp) (r : Unit × Hp), fX10_asked_33 x0 x1 x2 x3 x4 h = some r → pX10_asked_33 D cy s0 p l e s m args below meth c r x0 x1 x2 x3 x4 h := by
  intro x0 x1 x2 x3 x4 h ⟨rv, rh⟩ hf H locs ls cells slots hc hs hw hl
  unfold fX10_asked_33 at hf
  have hx := C.1
  have hb := C.2.1
  refine lv_aload_n hx hb dX10_asked_33 rfl (lv_at hl 0 rfl) ?_
  obtain ⟨z1, e1, hf⟩ := ob hf
  refine r_gR C hw e1 ck10 rfl (by decide) w983 dX10_asked_34 ?_
  cases z1 with
  | none =>
    have hf := on_n hf
    cases hf
  | some a2 =>
    have hf := on_s hf
    refine W.eq (g2 := F0 m 37 ls [.ref a2]) rfl ?_
    refine lv_iload_n hx hb dX10_asked_37 rfl (lv_at hl 1 rfl) ?_
    obtain ⟨z3, e3, hf⟩ := ob hf
    refine r_iald C hw e3 dX10_asked_38 ?_
    refine lv_iload hx hb dX10_asked_39 (lv_at hl 4 rfl) ?_
    refine lv_icmp_gt (tgt := 70) hx hb dX10_asked_41 (by decide) (fun c4 => ?_) (fun c4 => ?_)
    · have hf := ip hf c4
      exact bX10_asked_70 C hn _ _ _ _ _ hf _ _ _ _ _ (by omega) (by omega) hw (lv_sub hl [0, 2, 3] rfl)
    · have hf := ie hf c4
      refine lv_aload_n hx hb dX10_asked_44 rfl (lv_at hl 0 rfl) ?_
      obtain ⟨z5, e5, hf⟩ := ob hf
      refine r_gR C hw e5 ck10 rfl (by decide) w983 dX10_asked_45 ?_
      cases z5 with
      | none =>
        have hf := on_n hf
        cases hf
      | some a6 =>
        have hf := on_s hf
        refine W.eq (g2 := F0 m 48 ls [.ref a6]) rfl ?_
        refine lv_iload_n hx hb dX10_asked_48 rfl (lv_at hl 1 rfl) ?_
        obtain ⟨z7, e7, hf⟩ := ob hf
        refine r_iald C hw e7 dX10_asked_49 ?_
        refine lv_iload hx hb dX10_asked_50 (lv_at hl 4 rfl) ?_
        refine lv_icmp_ne (tgt := 74) hx hb dX10_asked_52 (by decide) (fun c8 => ?_) (fun c8 => ?_)
        · have hf := ie hf c8
          exact bX10_asked_74 C hn _ _ _ _ _ hf _ _ _ _ _ (by omega) (by omega) hw (lv_sub hl [0, 2, 3] rfl)
        · have hf := ip hf c8
          refine lv_aload_n hx hb dX10_asked_55 rfl (lv_at hl 0 rfl) ?_
          obtain ⟨z9, e9, hf⟩ := ob hf
          refine r_gR C hw e9 ck10 rfl (by decide) w982 dX10_asked_56 ?_
          cases z9 with
          | none =>
            have hf := on_n hf
            cases hf
          | some a10 =>
            have hf := on_s hf
            refine W.eq (g2 := F0 m 59 ls [.ref a10]) rfl ?_
            refine lv_iload_n hx hb dX10_asked_59 rfl (lv_at hl 1 rfl) ?_
            obtain ⟨z11, e11, hf⟩ := ob hf
            refine r_iald C hw e11 dX10_asked_60 ?_
            refine lv_aload_n hx hb dX10_asked_61 rfl (lv_at hl 0 rfl) ?_
            obtain ⟨z12, e12, hf⟩ := ob hf
            refine r_gR C hw e12 ck10 rfl (by decide) w968 dX10_asked_62 ?_
            cases z12 with
            | none =>
              have hf := on_n hf
              cases hf
            | some a13 =>
              have hf := on_s hf
              refine W.eq (g2 := F0 m 65 ls [.ref a13, .int z11]) rfl ?_
              refine lv_iload_n hx hb dX10_asked_65 rfl (lv_at hl 2 rfl) ?_
              obtain ⟨z14, e14, hf⟩ := ob hf
              refine r_iald C hw e14 dX10_asked_66 ?_
              refine lv_icmp_lt (tgt := 74) hx hb dX10_asked_67 (by decide) (fun c15 => ?_) (fun c15 => ?_)
              · have hf := ip hf c15
                exact bX10_asked_74 C hn _ _ _ _ _ hf _ _ _ _ _ (by omega) (by omega) hw (lv_sub hl [0, 2, 3] rfl)
              · have hf := ie hf c15
                exact bX10_asked_70 C hn _ _ _ _ _ hf _ _ _ _ _ (by omega) (by omega) hw (lv_sub hl [0, 2, 3] rfl)
set_option maxRecDepth 100000 in
set_option maxHeartbeats 4000000 in
theorem bX10_asked {D : va_G} {cy : Nat → ClassId} {s0 : Nat} {p : Program} {l : Launch} {e : Env} {s : State} {m : MethodId} {args : Array Value} {below : List Frame} {meth : Method} {c : Code} (C : CX D cy s0 p s m args meth c cX10_asked 6 RX10 none) (hn : meth.name = "asked") : ∀ (x0 : Nat) (x1 : Int32) (x2 : Int32) (x3 : Int32) (h : Hp) (r : Unit × Hp), fX10_asked x0 x1 x2 x3 h = some r → pX10_asked D cy s0 p l e s m args below meth c r x0 x1 x2 x3 h := by
  intro x0 x1 x2 x3 h ⟨rv, rh⟩ hf H locs ls cells slots hc hs hw hl
  unfold fX10_asked at hf
  have hx := C.1
  have hb := C.2.1
  refine lv_aload_n hx hb dX10_asked_0 rfl (lv_at hl 0 rfl) ?_
  refine lv_iload_n hx hb dX10_asked_1 rfl (lv_at hl 2 rfl) ?_
  refine lv_aload_n hx hb dX10_asked_2 rfl (lv_at hl 0 rfl) ?_
  obtain ⟨z1, e1, hf⟩ := ob hf
  refine r_gR C hw e1 ck10 rfl (by decide) w968 dX10_asked_3 ?_
  cases z1 with
  | none =>
    have hf := on_n hf
    cases hf
  | some a2 =>
    have hf := on_s hf
    refine W.eq (g2 := F0 m 6 ls [.ref a2, .int x2, .ref x0]) rfl ?_
    refine lv_iload_n hx hb dX10_asked_6 rfl (lv_at hl 2 rfl) ?_
    obtain ⟨z3, e3, hf⟩ := ob hf
    refine r_iald C hw e3 dX10_asked_7 ?_
    obtain ⟨kb4, hf⟩ := ig hf
    obtain ⟨z4, h4, e4, hf⟩ := ob2 hf
    refine r_callV C hw (mX10_termAt e4) kXX10_termAt ck10 rfl kb4 w1148 w1150 v39 ⟨Nat.le_of_ble_eq_true rfl, Nat.le_of_ble_eq_true rfl⟩ rfl hl.1 (rest := []) rfl (Nat.le_of_ble_eq_true rfl) dX10_asked_8 (mc := 0) (ms := 0) rfl rfl ⟨by show _ + 0 ≤ 0; omega, by show _ + 0 ≤ 0; omega⟩ (fun H locs hw => ?_)
    refine W.eq (g2 := F0 m 11 ls [.int z4]) rfl ?_
    refine lv_istore (lv' := [(4, .int z4), (0, .ref x0), (1, .int x1), (2, .int x2), (3, .int x3)]) hx hb dX10_asked_11 hl (by decide) rfl (fun ls hl => ?_)
    refine lv_aload_n hx hb dX10_asked_13 rfl (lv_at hl 1 rfl) ?_
    obtain ⟨z5, e5, hf⟩ := ob hf
    refine r_gR C hw e5 ck10 rfl (by decide) w966 dX10_asked_14 ?_
    cases z5 with
    | none =>
      have hf := on_n hf
      cases hf
    | some a6 =>
      have hf := on_s hf
      refine W.eq (g2 := F0 m 17 ls [.ref a6]) rfl ?_
      refine lv_iload_n hx hb dX10_asked_17 rfl (lv_at hl 3 rfl) ?_
      obtain ⟨z7, e7, hf⟩ := ob hf
      refine r_iald C hw e7 dX10_asked_18 ?_
      refine lv_iconst (v := (-1 : Int32)) hx hb dX10_asked_19 (by decide) ?_
      refine lv_icmp_eq (tgt := 33) hx hb dX10_asked_20 (by decide) (fun c8 => ?_) (fun c8 => ?_)
      · have hf := ip hf c8
        exact bX10_asked_33 C hn _ _ _ _ _ _ _ hf _ _ _ _ _ (by omega) (by omega) hw (lv_sub hl [1, 2, 3, 4, 0] rfl)
      · have hf := ie hf c8
        refine lv_aload_n hx hb dX10_asked_23 rfl (lv_at hl 1 rfl) ?_
        obtain ⟨z9, e9, hf⟩ := ob hf
        refine r_gR C hw e9 ck10 rfl (by decide) w966 dX10_asked_24 ?_
        cases z9 with
        | none =>
          have hf := on_n hf
          cases hf
        | some a10 =>
          have hf := on_s hf
          refine W.eq (g2 := F0 m 27 ls [.ref a10]) rfl ?_
          refine lv_iload_n hx hb dX10_asked_27 rfl (lv_at hl 3 rfl) ?_
          obtain ⟨z11, e11, hf⟩ := ob hf
          refine r_iald C hw e11 dX10_asked_28 ?_
          refine lv_iload_n hx hb dX10_asked_29 rfl (lv_at hl 4 rfl) ?_
          refine lv_icmp_ne (tgt := 74) hx hb dX10_asked_30 (by decide) (fun c12 => ?_) (fun c12 => ?_)
          · have hf := ie hf c12
            exact bX10_asked_74 C hn _ _ _ _ _ hf _ _ _ _ _ (by omega) (by omega) hw (lv_sub hl [1, 3, 4] rfl)
          · have hf := ip hf c12
            exact bX10_asked_33 C hn _ _ _ _ _ _ _ hf _ _ _ _ _ (by omega) (by omega) hw (lv_sub hl [1, 2, 3, 4, 0] rfl)
theorem kXX10_asked : MK yX10_asked cX10_asked 6 none 3 := ⟨w1171, w8, by decide +kernel⟩
theorem mX10_asked {D : va_G} {cy : Nat → ClassId} {s0 : Nat} {l : Launch} {x0 : Nat} {x1 : Int32} {x2 : Int32} {x3 : Int32} {h : Hp} {v : Unit} {h1 : Hp} (hf : fX10_asked x0 x1 x2 x3 h = some (v, h1)) : MT D cy s0 l yX10_asked cX10_asked 6 none rX10_asked [.ref x0, .int x1, .int x2, .int x3] h none h1 := by
  refine MT.of (by decide +kernel) (Nat.le_of_ble_eq_true rfl) ?_
  intro p e s m below meth c H locs ls C hn hw hl
  exact bX10_asked C hn _ _ _ _ _ _ hf _ _ _ _ _ (Nat.le_of_ble_eq_true rfl) (Nat.le_of_ble_eq_true rfl) hw hl
abbrev rX10_bad : Room := { frames := 0, cells := 0, slots := 0, locals := 0 }
abbrev pX10_bad (D : va_G) (cy : Nat → ClassId) (s0 : Nat) (p : Program) (l : Launch) (e : Env) (s : State) (m : MethodId) (args : Array Value) (below : List Frame) (meth : Method) (c : Code) (r : Int32 × Hp) (x0 : Nat) (x1 : Int32) (x2 : Int32) (h : Hp) : Prop := ∀ (H : Heap) (locs : List Loc) (ls : Array Slot) (cells slots : Nat), cells + (0) ≤ 0 → slots + (0) ≤ 0 → WS D cy s0 s h H locs → lv_has ls 3 [(0, .ref x0), (1, .int x1), (2, .int x2)] → W p l e rX10_bad s m args below meth c H locs cells slots (MQ below (QQ D cy s0 (some (.int r.1)) r.2) args s 0 0 (fun q => s0 ≤ q)) (F0 m 0 ls [])
set_option maxRecDepth 100000 in
set_option maxHeartbeats 4000000 in
theorem bX10_bad {D : va_G} {cy : Nat → ClassId} {s0 : Nat} {p : Program} {l : Launch} {e : Env} {s : State} {m : MethodId} {args : Array Value} {below : List Frame} {meth : Method} {c : Code} (C : CX D cy s0 p s m args meth c cX10_bad 3 RX10 (some .boolean)) (hn : meth.name = "bad") : ∀ (x0 : Nat) (x1 : Int32) (x2 : Int32) (h : Hp) (r : Int32 × Hp), fX10_bad x0 x1 x2 h = some r → pX10_bad D cy s0 p l e s m args below meth c r x0 x1 x2 h := by
  intro x0 x1 x2 h ⟨rv, rh⟩ hf H locs ls cells slots hc hs hw hl
  unfold fX10_bad at hf
  have hx := C.1
  have hb := C.2.1
  refine lv_aload_n hx hb dX10_bad_0 rfl (lv_at hl 0 rfl) ?_
  refine lv_iload_n hx hb dX10_bad_1 rfl (lv_at hl 1 rfl) ?_
  refine lv_if_eq (tgt := 9) hx hb dX10_bad_2 (by decide) (fun c1 => ?_) (fun c1 => ?_)
  · have hf := ip hf c1
    refine lv_iconst (v := (0 : Int32)) hx hb dX10_bad_9 (by decide) ?_
    obtain ⟨h2, e2, hf⟩ := ob hf
    refine r_pI C hw e2 ck10 rfl (by decide) rfl w963 (Or.inl rfl) dX10_bad_10 (fun H locs hw => ?_)
    refine lv_iload_n hx hb dX10_bad_13 rfl (lv_at hl 1 rfl) ?_
    obtain ⟨gz, hf⟩ := ig hf
    obtain ⟨rfl, rfl⟩ := sp hf
    exact r_iret C hw rfl (nz gz) (by omega) (by omega) dX10_bad_14
  · have hf := ie hf c1
    refine lv_iload_n hx hb dX10_bad_5 rfl (lv_at hl 2 rfl) ?_
    refine lv_goto (tgt := 10) hx hb dX10_bad_6 (by decide) ?_
    obtain ⟨h3, e3, hf⟩ := ob hf
    refine r_pI C hw e3 ck10 rfl (by decide) rfl w963 (Or.inl rfl) dX10_bad_10 (fun H locs hw => ?_)
    refine lv_iload_n hx hb dX10_bad_13 rfl (lv_at hl 1 rfl) ?_
    obtain ⟨gz, hf⟩ := ig hf
    obtain ⟨rfl, rfl⟩ := sp hf
    exact r_iret C hw rfl (nz gz) (by omega) (by omega) dX10_bad_14
theorem kXX10_bad : MK yX10_bad cX10_bad 3 (some .boolean) 2 := ⟨w1135, w8, by decide +kernel⟩
theorem mX10_bad {D : va_G} {cy : Nat → ClassId} {s0 : Nat} {l : Launch} {x0 : Nat} {x1 : Int32} {x2 : Int32} {h : Hp} {v : Int32} {h1 : Hp} (hf : fX10_bad x0 x1 x2 h = some (v, h1)) : MT D cy s0 l yX10_bad cX10_bad 3 (some .boolean) rX10_bad [.ref x0, .int x1, .int x2] h (some (.int v)) h1 := by
  refine MT.of (by decide +kernel) (Nat.le_of_ble_eq_true rfl) ?_
  intro p e s m below meth c H locs ls C hn hw hl
  exact bX10_bad C hn _ _ _ _ _ hf _ _ _ _ _ (Nat.le_of_ble_eq_true rfl) (Nat.le_of_ble_eq_true rfl) hw hl
abbrev rX10_isNode : Room := { frames := 0, cells := 0, slots := 0, locals := 0 }
abbrev pX10_isNode (D : va_G) (cy : Nat → ClassId) (s0 : Nat) (p : Program) (l : Launch) (e : Env) (s : State) (m : MethodId) (args : Array Value) (below : List Frame) (meth : Method) (c : Code) (r : Int32 × Hp) (x0 : Int32) (h : Hp) : Prop := ∀ (H : Heap) (locs : List Loc) (ls : Array Slot) (cells slots : Nat), cells + (0) ≤ 0 → slots + (0) ≤ 0 → WS D cy s0 s h H locs → lv_has ls 1 [(0, .int x0)] → W p l e rX10_isNode s m args below meth c H locs cells slots (MQ below (QQ D cy s0 (some (.int r.1)) r.2) args s 0 0 (fun q => s0 ≤ q)) (F0 m 0 ls [])
set_option maxRecDepth 100000 in
set_option maxHeartbeats 4000000 in
theorem bX10_isNode {D : va_G} {cy : Nat → ClassId} {s0 : Nat} {p : Program} {l : Launch} {e : Env} {s : State} {m : MethodId} {args : Array Value} {below : List Frame} {meth : Method} {c : Code} (C : CX D cy s0 p s m args meth c cX10_isNode 1 RX10 (some .boolean)) (hn : meth.name = "isNode") : ∀ (x0 : Int32) (h : Hp) (r : Int32 × Hp), fX10_isNode x0 h = some r → pX10_isNode D cy s0 p l e s m args below meth c r x0 h := by
  intro x0 h ⟨rv, rh⟩ hf H locs ls cells slots hc hs hw hl
  unfold fX10_isNode at hf
  have hx := C.1
  have hb := C.2.1
  refine lv_iload_n hx hb dX10_isNode_0 rfl (lv_at hl 0 rfl) ?_
  refine lv_if_lt (tgt := 13) hx hb dX10_isNode_1 (by decide) (fun c1 => ?_) (fun c1 => ?_)
  · have hf := ip hf c1
    refine lv_iconst (v := (0 : Int32)) hx hb dX10_isNode_13 (by decide) ?_
    obtain ⟨rfl, rfl⟩ := sp hf
    exact r_iret C hw rfl (nz (Or.inl rfl)) (by omega) (by omega) dX10_isNode_14
  · have hf := ie hf c1
    refine lv_iload_n hx hb dX10_isNode_4 rfl (lv_at hl 0 rfl) ?_
    refine lv_iconst (v := (5 : Int32)) hx hb dX10_isNode_5 (by decide) ?_
    refine lv_icmp_ge (tgt := 13) hx hb dX10_isNode_6 (by decide) (fun c2 => ?_) (fun c2 => ?_)
    · have hf := ip hf c2
      refine lv_iconst (v := (0 : Int32)) hx hb dX10_isNode_13 (by decide) ?_
      obtain ⟨rfl, rfl⟩ := sp hf
      exact r_iret C hw rfl (nz (Or.inl rfl)) (by omega) (by omega) dX10_isNode_14
    · have hf := ie hf c2
      refine lv_iconst (v := (1 : Int32)) hx hb dX10_isNode_9 (by decide) ?_
      refine lv_goto (tgt := 14) hx hb dX10_isNode_10 (by decide) ?_
      obtain ⟨rfl, rfl⟩ := sp hf
      exact r_iret C hw rfl (nz (Or.inr rfl)) (by omega) (by omega) dX10_isNode_14
theorem kXX10_isNode : MK yX10_isNode cX10_isNode 1 (some .boolean) 1 := ⟨w1131, w8, by decide +kernel⟩
theorem mX10_isNode {D : va_G} {cy : Nat → ClassId} {s0 : Nat} {l : Launch} {x0 : Int32} {h : Hp} {v : Int32} {h1 : Hp} (hf : fX10_isNode x0 h = some (v, h1)) : MT D cy s0 l yX10_isNode cX10_isNode 1 (some .boolean) rX10_isNode [.int x0] h (some (.int v)) h1 := by
  refine MT.of (by decide +kernel) (Nat.le_of_ble_eq_true rfl) ?_
  intro p e s m below meth c H locs ls C hn hw hl
  exact bX10_isNode C hn _ _ _ hf _ _ _ _ _ (Nat.le_of_ble_eq_true rfl) (Nat.le_of_ble_eq_true rfl) hw hl
abbrev rX10_sendAll : Room := { frames := 3, cells := 0, slots := 0, locals := 69 }
abbrev pX10_sendAll_18 (D : va_G) (cy : Nat → ClassId) (s0 : Nat) (p : Program) (l : Launch) (e : Env) (s : State) (m : MethodId) (args : Array Value) (below : List Frame) (meth : Method) (c : Code) (r : Unit × Hp) (x0 : Nat) (x1 : Int32) (x2 : Int32) (h : Hp) : Prop := ∀ (H : Heap) (locs : List Loc) (ls : Array Slot) (cells slots : Nat), cells + (0) ≤ 0 → slots + (0) ≤ 0 → WS D cy s0 s h H locs → lv_has ls 3 [(0, .ref x0), (1, .int x1), (2, .int x2)] → W p l e rX10_sendAll s m args below meth c H locs cells slots (MQ below (QQ D cy s0 none r.2) args s 0 0 (fun q => s0 ≤ q)) (F0 m 18 ls [])
abbrev pX10_sendAll_2 (D : va_G) (cy : Nat → ClassId) (s0 : Nat) (p : Program) (l : Launch) (e : Env) (s : State) (m : MethodId) (args : Array Value) (below : List Frame) (meth : Method) (c : Code) (r : Unit × Hp) (x0 : Nat) (x1 : Int32) (x2 : Int32) (h : Hp) : Prop := ∀ (H : Heap) (locs : List Loc) (ls : Array Slot) (cells slots : Nat), cells + (0) ≤ 0 → slots + (0) ≤ 0 → WS D cy s0 s h H locs → lv_has ls 3 [(0, .ref x0), (1, .int x1), (2, .int x2)] → W p l e rX10_sendAll s m args below meth c H locs cells slots (MQ below (QQ D cy s0 none r.2) args s 0 0 (fun q => s0 ≤ q)) (F0 m 2 ls [])
abbrev pX10_sendAll (D : va_G) (cy : Nat → ClassId) (s0 : Nat) (p : Program) (l : Launch) (e : Env) (s : State) (m : MethodId) (args : Array Value) (below : List Frame) (meth : Method) (c : Code) (r : Unit × Hp) (x0 : Nat) (x1 : Int32) (h : Hp) : Prop := ∀ (H : Heap) (locs : List Loc) (ls : Array Slot) (cells slots : Nat), cells + (0) ≤ 0 → slots + (0) ≤ 0 → WS D cy s0 s h H locs → lv_has ls 3 [(0, .ref x0), (1, .int x1)] → W p l e rX10_sendAll s m args below meth c H locs cells slots (MQ below (QQ D cy s0 none r.2) args s 0 0 (fun q => s0 ≤ q)) (F0 m 0 ls [])
set_option maxRecDepth 100000 in
set_option maxHeartbeats 4000000 in
theorem bX10_sendAll_18 {D : va_G} {cy : Nat → ClassId} {s0 : Nat} {p : Program} {l : Launch} {e : Env} {s : State} {m : MethodId} {args : Array Value} {below : List Frame} {meth : Method} {c : Code} (C : CX D cy s0 p s m args meth c cX10_sendAll 3 RX10 none) (hn : meth.name = "sendAll") {k2 : Nat → Int32 → Int32 → Hp → Option (Unit × Hp)} (hk2 : ∀ (x0 : Nat) (x1 : Int32) (x2 : Int32) (h : Hp) (r : Unit × Hp), k2 x0 x1 x2 h = some r → pX10_sendAll_2 D cy s0 p l e s m args below meth c r x0 x1 x2 h) : ∀ (x0 : Nat) (x1 : Int32) (x2 : Int32) (h : Hp) (r : Unit × Hp), fX10_sendAll_18 k2 x0 x1 x2 h = some r → pX10_sendAll_18 D cy s0 p l e s m args below meth c r x0 x1 x2 h := by
  intro x0 x1 x2 h ⟨rv, rh⟩ hf H locs ls cells slots hc hs hw hl
  unfold fX10_sendAll_18 at hf
  have hx := C.1
  have hb := C.2.1
  refine lv_iinc (v := (x2 + (1 : Int32))) (lv' := [(2, .int (x2 + (1 : Int32))), (0, .ref x0), (1, .int x1)]) hx hb dX10_sendAll_18 hl (k := 2) rfl rfl (by decide) rfl (fun ls hl => ?_)
  refine lv_goto (tgt := 2) hx hb dX10_sendAll_21 (by decide) ?_
  exact hk2 _ _ _ _ _ hf _ _ _ _ _ (by omega) (by omega) hw (lv_sub hl [1, 2, 0] rfl)
set_option maxRecDepth 100000 in
set_option maxHeartbeats 4000000 in
theorem bX10_sendAll_2_body {D : va_G} {cy : Nat → ClassId} {s0 : Nat} {p : Program} {l : Launch} {e : Env} {s : State} {m : MethodId} {args : Array Value} {below : List Frame} {meth : Method} {c : Code} (C : CX D cy s0 p s m args meth c cX10_sendAll 3 RX10 none) (hn : meth.name = "sendAll") {k2 : Nat → Int32 → Int32 → Hp → Option (Unit × Hp)} (hk2 : ∀ (x0 : Nat) (x1 : Int32) (x2 : Int32) (h : Hp) (r : Unit × Hp), k2 x0 x1 x2 h = some r → pX10_sendAll_2 D cy s0 p l e s m args below meth c r x0 x1 x2 h) : ∀ (x0 : Nat) (x1 : Int32) (x2 : Int32) (h : Hp) (r : Unit × Hp), fX10_sendAll_2_body k2 x0 x1 x2 h = some r → pX10_sendAll_2 D cy s0 p l e s m args below meth c r x0 x1 x2 h := by
  intro x0 x1 x2 h ⟨rv, rh⟩ hf H locs ls cells slots hc hs hw hl
  unfold fX10_sendAll_2_body at hf
  have hx := C.1
  have hb := C.2.1
  refine lv_iload_n hx hb dX10_sendAll_2 rfl (lv_at hl 2 rfl) ?_
  refine lv_iconst (v := (5 : Int32)) hx hb dX10_sendAll_3 (by decide) ?_
  refine lv_icmp_ge (tgt := 24) hx hb dX10_sendAll_4 (by decide) (fun c1 => ?_) (fun c1 => ?_)
  · have hf := ip hf c1
    obtain ⟨rfl, rfl⟩ := sp hf
    exact r_vret C hw rfl (by omega) (by omega) dX10_sendAll_24
  · have hf := ie hf c1
    refine lv_iload_n hx hb dX10_sendAll_7 rfl (lv_at hl 2 rfl) ?_
    refine lv_iload_n hx hb dX10_sendAll_8 rfl (lv_at hl 1 rfl) ?_
    refine lv_icmp_eq (tgt := 18) hx hb dX10_sendAll_9 (by decide) (fun c2 => ?_) (fun c2 => ?_)
    · have hf := ip hf c2
      exact bX10_sendAll_18 C hn hk2 _ _ _ _ _ hf _ _ _ _ _ (by omega) (by omega) hw (lv_sub hl [0, 1, 2] rfl)
    · have hf := ie hf c2
      refine lv_aload_n hx hb dX10_sendAll_12 rfl (lv_at hl 0 rfl) ?_
      refine lv_iload_n hx hb dX10_sendAll_13 rfl (lv_at hl 1 rfl) ?_
      refine lv_iload_n hx hb dX10_sendAll_14 rfl (lv_at hl 2 rfl) ?_
      obtain ⟨kb3, hf⟩ := ig hf
      obtain ⟨z3, h3, e3, hf⟩ := ob2 hf
      refine r_callV C hw (mX10_send e3) kXX10_send ck10 rfl kb3 w1188 w1190 v48 ⟨Nat.le_of_ble_eq_true rfl, Nat.le_of_ble_eq_true rfl⟩ rfl hl.1 (rest := []) rfl (Nat.le_of_ble_eq_true rfl) dX10_sendAll_15 (mc := 0) (ms := 0) rfl rfl ⟨by show _ + 0 ≤ 0; omega, by show _ + 0 ≤ 0; omega⟩ (fun H locs hw => ?_)
      refine W.eq (g2 := F0 m 18 ls []) rfl ?_
      exact bX10_sendAll_18 C hn hk2 _ _ _ _ _ hf _ _ _ _ _ (by omega) (by omega) hw (lv_sub hl [0, 1, 2] rfl)
set_option maxRecDepth 100000 in
set_option maxHeartbeats 4000000 in
theorem bX10_sendAll_2 {D : va_G} {cy : Nat → ClassId} {s0 : Nat} {p : Program} {l : Launch} {e : Env} {s : State} {m : MethodId} {args : Array Value} {below : List Frame} {meth : Method} {c : Code} (C : CX D cy s0 p s m args meth c cX10_sendAll 3 RX10 none) (hn : meth.name = "sendAll") : ∀ (n : Nat) (x0 : Nat) (x1 : Int32) (x2 : Int32) (h : Hp) (r : Unit × Hp), fX10_sendAll_2 n x0 x1 x2 h = some r → pX10_sendAll_2 D cy s0 p l e s m args below meth c r x0 x1 x2 h := by
  intro n
  induction n with
  | zero => intro x0 x1 x2 h r hf; exact absurd hf (fun q => by cases q)
  | succ n ih => exact bX10_sendAll_2_body C hn ih
set_option maxRecDepth 100000 in
set_option maxHeartbeats 4000000 in
theorem bX10_sendAll {D : va_G} {cy : Nat → ClassId} {s0 : Nat} {p : Program} {l : Launch} {e : Env} {s : State} {m : MethodId} {args : Array Value} {below : List Frame} {meth : Method} {c : Code} (C : CX D cy s0 p s m args meth c cX10_sendAll 3 RX10 none) (hn : meth.name = "sendAll") : ∀ (x0 : Nat) (x1 : Int32) (h : Hp) (r : Unit × Hp), fX10_sendAll x0 x1 h = some r → pX10_sendAll D cy s0 p l e s m args below meth c r x0 x1 h := by
  intro x0 x1 h ⟨rv, rh⟩ hf H locs ls cells slots hc hs hw hl
  unfold fX10_sendAll at hf
  have hx := C.1
  have hb := C.2.1
  refine lv_iconst (v := (0 : Int32)) hx hb dX10_sendAll_0 (by decide) ?_
  refine lv_istore_n (lv' := [(2, .int (0 : Int32)), (0, .ref x0), (1, .int x1)]) hx hb dX10_sendAll_1 rfl hl (by decide) rfl (fun ls hl => ?_)
  exact bX10_sendAll_2 C hn LF _ _ _ _ _ hf _ _ _ _ _ (by omega) (by omega) hw (lv_sub hl [1, 2, 0] rfl)
theorem kXX10_sendAll : MK yX10_sendAll cX10_sendAll 3 none 1 := ⟨w1187, w8, by decide +kernel⟩
theorem mX10_sendAll {D : va_G} {cy : Nat → ClassId} {s0 : Nat} {l : Launch} {x0 : Nat} {x1 : Int32} {h : Hp} {v : Unit} {h1 : Hp} (hf : fX10_sendAll x0 x1 h = some (v, h1)) : MT D cy s0 l yX10_sendAll cX10_sendAll 3 none rX10_sendAll [.ref x0, .int x1] h none h1 := by
  refine MT.of (by decide +kernel) (Nat.le_of_ble_eq_true rfl) ?_
  intro p e s m below meth c H locs ls C hn hw hl
  exact bX10_sendAll C hn _ _ _ _ hf _ _ _ _ _ (Nat.le_of_ble_eq_true rfl) (Nat.le_of_ble_eq_true rfl) hw hl
abbrev rX10_beat : Room := { frames := 4, cells := 0, slots := 0, locals := 91 }
abbrev pX10_beat_45 (D : va_G) (cy : Nat → ClassId) (s0 : Nat) (p : Program) (l : Launch) (e : Env) (s : State) (m : MethodId) (args : Array Value) (below : List Frame) (meth : Method) (c : Code) (r : Int32 × Hp) (x0 : Nat) (x1 : Int32) (y0 : Int32) (y1 : Nat) (h : Hp) : Prop := ∀ (H : Heap) (locs : List Loc) (ls : Array Slot) (cells slots : Nat), cells + (0) ≤ 0 → slots + (0) ≤ 0 → WS D cy s0 s h H locs → lv_has ls 3 [(0, .ref x0), (1, .int x1)] → W p l e rX10_beat s m args below meth c H locs cells slots (MQ below (QQ D cy s0 (some (.int r.1)) r.2) args s 0 0 (fun q => s0 ≤ q)) (F0 m 45 ls [.int y0, .ref y1])
abbrev pX10_beat_40 (D : va_G) (cy : Nat → ClassId) (s0 : Nat) (p : Program) (l : Launch) (e : Env) (s : State) (m : MethodId) (args : Array Value) (below : List Frame) (meth : Method) (c : Code) (r : Int32 × Hp) (x0 : Nat) (x1 : Int32) (y0 : Nat) (h : Hp) : Prop := ∀ (H : Heap) (locs : List Loc) (ls : Array Slot) (cells slots : Nat), cells + (0) ≤ 0 → slots + (0) ≤ 0 → WS D cy s0 s h H locs → lv_has ls 3 [(0, .ref x0), (1, .int x1)] → W p l e rX10_beat s m args below meth c H locs cells slots (MQ below (QQ D cy s0 (some (.int r.1)) r.2) args s 0 0 (fun q => s0 ≤ q)) (F0 m 40 ls [.ref y0])
abbrev pX10_beat_13 (D : va_G) (cy : Nat → ClassId) (s0 : Nat) (p : Program) (l : Launch) (e : Env) (s : State) (m : MethodId) (args : Array Value) (below : List Frame) (meth : Method) (c : Code) (r : Int32 × Hp) (x0 : Nat) (x1 : Int32) (y0 : Int32) (y1 : Nat) (h : Hp) : Prop := ∀ (H : Heap) (locs : List Loc) (ls : Array Slot) (cells slots : Nat), cells + (0) ≤ 0 → slots + (0) ≤ 0 → WS D cy s0 s h H locs → lv_has ls 3 [(0, .ref x0), (1, .int x1)] → W p l e rX10_beat s m args below meth c H locs cells slots (MQ below (QQ D cy s0 (some (.int r.1)) r.2) args s 0 0 (fun q => s0 ≤ q)) (F0 m 13 ls [.int y0, .ref y1])
abbrev pX10_beat (D : va_G) (cy : Nat → ClassId) (s0 : Nat) (p : Program) (l : Launch) (e : Env) (s : State) (m : MethodId) (args : Array Value) (below : List Frame) (meth : Method) (c : Code) (r : Int32 × Hp) (x0 : Nat) (x1 : Int32) (h : Hp) : Prop := ∀ (H : Heap) (locs : List Loc) (ls : Array Slot) (cells slots : Nat), cells + (0) ≤ 0 → slots + (0) ≤ 0 → WS D cy s0 s h H locs → lv_has ls 3 [(0, .ref x0), (1, .int x1)] → W p l e rX10_beat s m args below meth c H locs cells slots (MQ below (QQ D cy s0 (some (.int r.1)) r.2) args s 0 0 (fun q => s0 ≤ q)) (F0 m 0 ls [])
set_option maxRecDepth 100000 in
set_option maxHeartbeats 4000000 in
theorem bX10_beat_45 {D : va_G} {cy : Nat → ClassId} {s0 : Nat} {p : Program} {l : Launch} {e : Env} {s : State} {m : MethodId} {args : Array Value} {below : List Frame} {meth : Method} {c : Code} (C : CX D cy s0 p s m args meth c cX10_beat 3 RX10 (some .int)) (hn : meth.name = "beat") : ∀ (x0 : Nat) (x1 : Int32) (y0 : Int32) (y1 : Nat) (h : Hp) (r : Int32 × Hp), fX10_beat_45 x0 x1 y0 y1 h = some r → pX10_beat_45 D cy s0 p l e s m args below meth c r x0 x1 y0 y1 h := by
  intro x0 x1 y0 y1 h ⟨rv, rh⟩ hf H locs ls cells slots hc hs hw hl
  unfold fX10_beat_45 at hf
  have hx := C.1
  have hb := C.2.1
  refine lv_iconst (v := (2 : Int32)) hx hb dX10_beat_45 (by decide) ?_
  obtain ⟨kb1, hf⟩ := ig hf
  obtain ⟨z1, h1, e1, hf⟩ := ob2 hf
  refine r_callV C hw (mX10_bad e1) kXX10_bad ck10 rfl kb1 w1132 w1134 v35 ⟨Nat.le_of_ble_eq_true rfl, Nat.le_of_ble_eq_true rfl⟩ rfl hl.1 (rest := []) rfl (Nat.le_of_ble_eq_true rfl) dX10_beat_46 (mc := 0) (ms := 0) rfl rfl ⟨by show _ + 0 ≤ 0; omega, by show _ + 0 ≤ 0; omega⟩ (fun H locs hw => ?_)
  refine W.eq (g2 := F0 m 49 ls [.int z1]) rfl ?_
  refine lv_if_eq (tgt := 54) hx hb dX10_beat_49 (by decide) (fun c2 => ?_) (fun c2 => ?_)
  · have hf := ip hf c2
    refine lv_aload_n hx hb dX10_beat_54 rfl (lv_at hl 0 rfl) ?_
    obtain ⟨z3, e3, hf⟩ := ob hf
    refine r_gI C hw e3 ck10 rfl (by decide) w987 dX10_beat_55 ?_
    refine lv_istore_n (lv' := [(2, .int z3), (0, .ref x0), (1, .int x1)]) hx hb dX10_beat_58 rfl hl (by decide) rfl (fun ls hl => ?_)
    refine lv_aload_n hx hb dX10_beat_59 rfl (lv_at hl 1 rfl) ?_
    refine lv_iload_n hx hb dX10_beat_60 rfl (lv_at hl 2 rfl) ?_
    obtain ⟨kb4, hf⟩ := ig hf
    obtain ⟨z4, h4, e4, hf⟩ := ob2 hf
    refine r_callV C hw (mX10_sendAll e4) kXX10_sendAll ck10 rfl kb4 w1184 w1186 v47 ⟨Nat.le_of_ble_eq_true rfl, Nat.le_of_ble_eq_true rfl⟩ rfl hl.1 (rest := []) rfl (Nat.le_of_ble_eq_true rfl) dX10_beat_61 (mc := 0) (ms := 0) rfl rfl ⟨by show _ + 0 ≤ 0; omega, by show _ + 0 ≤ 0; omega⟩ (fun H locs hw => ?_)
    refine W.eq (g2 := F0 m 64 ls []) rfl ?_
    refine lv_aload_n hx hb dX10_beat_64 rfl (lv_at hl 1 rfl) ?_
    obtain ⟨z5, e5, hf⟩ := ob hf
    refine r_gI C hw e5 ck10 rfl (by decide) w987 dX10_beat_65 ?_
    refine lv_iload_n hx hb dX10_beat_68 rfl (lv_at hl 0 rfl) ?_
    refine lv_isub hx hb dX10_beat_69 ?_
    obtain ⟨rfl, rfl⟩ := sp hf
    exact r_iret C hw rfl rfl (by omega) (by omega) dX10_beat_70
  · have hf := ie hf c2
    refine lv_iconst (v := (0 : Int32)) hx hb dX10_beat_52 (by decide) ?_
    obtain ⟨rfl, rfl⟩ := sp hf
    exact r_iret C hw rfl rfl (by omega) (by omega) dX10_beat_53
set_option maxRecDepth 100000 in
set_option maxHeartbeats 4000000 in
theorem bX10_beat_40 {D : va_G} {cy : Nat → ClassId} {s0 : Nat} {p : Program} {l : Launch} {e : Env} {s : State} {m : MethodId} {args : Array Value} {below : List Frame} {meth : Method} {c : Code} (C : CX D cy s0 p s m args meth c cX10_beat 3 RX10 (some .int)) (hn : meth.name = "beat") : ∀ (x0 : Nat) (x1 : Int32) (y0 : Nat) (h : Hp) (r : Int32 × Hp), fX10_beat_40 x0 x1 y0 h = some r → pX10_beat_40 D cy s0 p l e s m args below meth c r x0 x1 y0 h := by
  intro x0 x1 y0 h ⟨rv, rh⟩ hf H locs ls cells slots hc hs hw hl
  unfold fX10_beat_40 at hf
  have hx := C.1
  have hb := C.2.1
  refine lv_iconst (v := (1 : Int32)) hx hb dX10_beat_40 (by decide) ?_
  refine lv_goto (tgt := 45) hx hb dX10_beat_41 (by decide) ?_
  exact bX10_beat_45 C hn _ _ _ _ _ _ hf _ _ _ _ _ (by omega) (by omega) hw (lv_sub hl [0, 1] rfl)
set_option maxRecDepth 100000 in
set_option maxHeartbeats 4000000 in
theorem bX10_beat_13 {D : va_G} {cy : Nat → ClassId} {s0 : Nat} {p : Program} {l : Launch} {e : Env} {s : State} {m : MethodId} {args : Array Value} {below : List Frame} {meth : Method} {c : Code} (C : CX D cy s0 p s m args meth c cX10_beat 3 RX10 (some .int)) (hn : meth.name = "beat") : ∀ (x0 : Nat) (x1 : Int32) (y0 : Int32) (y1 : Nat) (h : Hp) (r : Int32 × Hp), fX10_beat_13 x0 x1 y0 y1 h = some r → pX10_beat_13 D cy s0 p l e s m args below meth c r x0 x1 y0 y1 h := by
  intro x0 x1 y0 y1 h ⟨rv, rh⟩ hf H locs ls cells slots hc hs hw hl
  unfold fX10_beat_13 at hf
  have hx := C.1
  have hb := C.2.1
  refine lv_iconst (v := (1 : Int32)) hx hb dX10_beat_13 (by decide) ?_
  obtain ⟨kb1, hf⟩ := ig hf
  obtain ⟨z1, h1, e1, hf⟩ := ob2 hf
  refine r_callV C hw (mX10_bad e1) kXX10_bad ck10 rfl kb1 w1132 w1134 v35 ⟨Nat.le_of_ble_eq_true rfl, Nat.le_of_ble_eq_true rfl⟩ rfl hl.1 (rest := []) rfl (Nat.le_of_ble_eq_true rfl) dX10_beat_14 (mc := 0) (ms := 0) rfl rfl ⟨by show _ + 0 ≤ 0; omega, by show _ + 0 ≤ 0; omega⟩ (fun H locs hw => ?_)
  refine W.eq (g2 := F0 m 17 ls [.int z1]) rfl ?_
  refine lv_if_ne (tgt := 52) hx hb dX10_beat_17 (by decide) (fun c2 => ?_) (fun c2 => ?_)
  · have hf := ie hf c2
    refine lv_iconst (v := (0 : Int32)) hx hb dX10_beat_52 (by decide) ?_
    obtain ⟨rfl, rfl⟩ := sp hf
    exact r_iret C hw rfl rfl (by omega) (by omega) dX10_beat_53
  · have hf := ip hf c2
    refine lv_aload_n hx hb dX10_beat_20 rfl (lv_at hl 0 rfl) ?_
    refine lv_aload_n hx hb dX10_beat_21 rfl (lv_at hl 0 rfl) ?_
    obtain ⟨z3, e3, hf⟩ := ob hf
    refine r_gR C hw e3 ck10 rfl (by decide) w964 dX10_beat_22 ?_
    cases z3 with
    | none =>
      have hf := on_n hf
      cases hf
    | some a4 =>
      have hf := on_s hf
      refine W.eq (g2 := F0 m 25 ls [.ref a4, .ref x0]) rfl ?_
      refine lv_iload_n hx hb dX10_beat_25 rfl (lv_at hl 1 rfl) ?_
      obtain ⟨z5, e5, hf⟩ := ob hf
      refine r_zald C hw e5 dX10_beat_26 ?_
      refine lv_if_eq (tgt := 40) hx hb dX10_beat_27 (by decide) (fun c6 => ?_) (fun c6 => ?_)
      · have hf := ip hf c6
        exact bX10_beat_40 C hn _ _ _ _ _ hf _ _ _ _ _ (by omega) (by omega) hw (lv_sub hl [0, 1] rfl)
      · have hf := ie hf c6
        refine lv_aload_n hx hb dX10_beat_30 rfl (lv_at hl 0 rfl) ?_
        obtain ⟨z7, e7, hf⟩ := ob hf
        refine r_gR C hw e7 ck10 rfl (by decide) w971 dX10_beat_31 ?_
        cases z7 with
        | none =>
          have hf := on_n hf
          cases hf
        | some a8 =>
          have hf := on_s hf
          refine W.eq (g2 := F0 m 34 ls [.ref a8, .ref x0]) rfl ?_
          refine lv_iload_n hx hb dX10_beat_34 rfl (lv_at hl 1 rfl) ?_
          obtain ⟨z9, e9, hf⟩ := ob hf
          refine r_iald C hw e9 dX10_beat_35 ?_
          refine lv_iconst (v := (2 : Int32)) hx hb dX10_beat_36 (by decide) ?_
          refine lv_icmp_eq (tgt := 44) hx hb dX10_beat_37 (by decide) (fun c10 => ?_) (fun c10 => ?_)
          · have hf := ip hf c10
            refine lv_iconst (v := (0 : Int32)) hx hb dX10_beat_44 (by decide) ?_
            exact bX10_beat_45 C hn _ _ _ _ _ _ hf _ _ _ _ _ (by omega) (by omega) hw (lv_sub hl [0, 1] rfl)
          · have hf := ie hf c10
            exact bX10_beat_40 C hn _ _ _ _ _ hf _ _ _ _ _ (by omega) (by omega) hw (lv_sub hl [0, 1] rfl)
set_option maxRecDepth 100000 in
set_option maxHeartbeats 4000000 in
theorem bX10_beat {D : va_G} {cy : Nat → ClassId} {s0 : Nat} {p : Program} {l : Launch} {e : Env} {s : State} {m : MethodId} {args : Array Value} {below : List Frame} {meth : Method} {c : Code} (C : CX D cy s0 p s m args meth c cX10_beat 3 RX10 (some .int)) (hn : meth.name = "beat") : ∀ (x0 : Nat) (x1 : Int32) (h : Hp) (r : Int32 × Hp), fX10_beat x0 x1 h = some r → pX10_beat D cy s0 p l e s m args below meth c r x0 x1 h := by
  intro x0 x1 h ⟨rv, rh⟩ hf H locs ls cells slots hc hs hw hl
  unfold fX10_beat at hf
  have hx := C.1
  have hb := C.2.1
  refine lv_aload_n hx hb dX10_beat_0 rfl (lv_at hl 0 rfl) ?_
  refine lv_iload_n hx hb dX10_beat_1 rfl (lv_at hl 1 rfl) ?_
  obtain ⟨z1, h1, e1, hf⟩ := ob2 hf
  refine r_callS C hw (mX10_isNode e1) kXX10_isNode w1129 w1130 ⟨Nat.le_of_ble_eq_true rfl, Nat.le_of_ble_eq_true rfl⟩ rfl hl.1 (rest := [.ref x0]) rfl (Nat.le_of_ble_eq_true rfl) dX10_beat_2 (mc := 0) (ms := 0) rfl rfl ⟨by show _ + 0 ≤ 0; omega, by show _ + 0 ≤ 0; omega⟩ (fun H locs hw => ?_)
  refine W.eq (g2 := F0 m 5 ls [.int z1, .ref x0]) rfl ?_
  refine lv_if_ne (tgt := 12) hx hb dX10_beat_5 (by decide) (fun c2 => ?_) (fun c2 => ?_)
  · have hf := ie hf c2
    refine lv_iconst (v := (0 : Int32)) hx hb dX10_beat_12 (by decide) ?_
    exact bX10_beat_13 C hn _ _ _ _ _ _ hf _ _ _ _ _ (by omega) (by omega) hw (lv_sub hl [0, 1] rfl)
  · have hf := ip hf c2
    refine lv_iconst (v := (1 : Int32)) hx hb dX10_beat_8 (by decide) ?_
    refine lv_goto (tgt := 13) hx hb dX10_beat_9 (by decide) ?_
    exact bX10_beat_13 C hn _ _ _ _ _ _ hf _ _ _ _ _ (by omega) (by omega) hw (lv_sub hl [0, 1] rfl)
theorem kXX10_beat : MK yX10_beat cX10_beat 3 (some .int) 1 := ⟨w1224, w8, by decide +kernel⟩
theorem mX10_beat {D : va_G} {cy : Nat → ClassId} {s0 : Nat} {l : Launch} {x0 : Nat} {x1 : Int32} {h : Hp} {v : Int32} {h1 : Hp} (hf : fX10_beat x0 x1 h = some (v, h1)) : MT D cy s0 l yX10_beat cX10_beat 3 (some .int) rX10_beat [.ref x0, .int x1] h (some (.int v)) h1 := by
  refine MT.of (by decide +kernel) (Nat.le_of_ble_eq_true rfl) ?_
  intro p e s m below meth c H locs ls C hn hw hl
  exact bX10_beat C hn _ _ _ _ hf _ _ _ _ _ (Nat.le_of_ble_eq_true rfl) (Nat.le_of_ble_eq_true rfl) hw hl
abbrev rX10_check : Room := { frames := 0, cells := 0, slots := 0, locals := 0 }
abbrev pX10_check (D : va_G) (cy : Nat → ClassId) (s0 : Nat) (p : Program) (l : Launch) (e : Env) (s : State) (m : MethodId) (args : Array Value) (below : List Frame) (meth : Method) (c : Code) (r : Int32 × Hp) (x0 : Nat) (h : Hp) : Prop := ∀ (H : Heap) (locs : List Loc) (ls : Array Slot) (cells slots : Nat), cells + (0) ≤ 0 → slots + (0) ≤ 0 → WS D cy s0 s h H locs → lv_has ls 1 [(0, .ref x0)] → W p l e rX10_check s m args below meth c H locs cells slots (MQ below (QQ D cy s0 (some (.int r.1)) r.2) args s 0 0 (fun q => s0 ≤ q)) (F0 m 0 ls [])
set_option maxRecDepth 100000 in
set_option maxHeartbeats 4000000 in
theorem bX10_check {D : va_G} {cy : Nat → ClassId} {s0 : Nat} {p : Program} {l : Launch} {e : Env} {s : State} {m : MethodId} {args : Array Value} {below : List Frame} {meth : Method} {c : Code} (C : CX D cy s0 p s m args meth c cX10_check 1 RX10 (some .int)) (hn : meth.name = "check") : ∀ (x0 : Nat) (h : Hp) (r : Int32 × Hp), fX10_check x0 h = some r → pX10_check D cy s0 p l e s m args below meth c r x0 h := by
  intro x0 h ⟨rv, rh⟩ hf H locs ls cells slots hc hs hw hl
  unfold fX10_check at hf
  have hx := C.1
  have hb := C.2.1
  refine lv_aload_n hx hb dX10_check_0 rfl (lv_at hl 0 rfl) ?_
  refine lv_iconst (v := (0 : Int32)) hx hb dX10_check_1 (by decide) ?_
  obtain ⟨h1, e1, hf⟩ := ob hf
  refine r_pI C hw e1 ck10 rfl (by decide) rfl w963 (Or.inl rfl) dX10_check_2 (fun H locs hw => ?_)
  refine lv_iconst (v := (0 : Int32)) hx hb dX10_check_5 (by decide) ?_
  obtain ⟨rfl, rfl⟩ := sp hf
  exact r_iret C hw rfl rfl (by omega) (by omega) dX10_check_6
theorem kXX10_check : MK yX10_check cX10_check 1 (some .int) 0 := ⟨w1321, w8, by decide +kernel⟩
theorem mX10_check {D : va_G} {cy : Nat → ClassId} {s0 : Nat} {l : Launch} {x0 : Nat} {h : Hp} {v : Int32} {h1 : Hp} (hf : fX10_check x0 h = some (v, h1)) : MT D cy s0 l yX10_check cX10_check 1 (some .int) rX10_check [.ref x0] h (some (.int v)) h1 := by
  refine MT.of (by decide +kernel) (Nat.le_of_ble_eq_true rfl) ?_
  intro p e s m below meth c H locs ls C hn hw hl
  exact bX10_check C hn _ _ _ hf _ _ _ _ _ (Nat.le_of_ble_eq_true rfl) (Nat.le_of_ble_eq_true rfl) hw hl
abbrev rX10_coded : Room := { frames := 0, cells := 0, slots := 0, locals := 0 }
abbrev pX10_coded (D : va_G) (cy : Nat → ClassId) (s0 : Nat) (p : Program) (l : Launch) (e : Env) (s : State) (m : MethodId) (args : Array Value) (below : List Frame) (meth : Method) (c : Code) (r : Int64 × Hp) (x0 : Nat) (x1 : Int32) (h : Hp) : Prop := ∀ (H : Heap) (locs : List Loc) (ls : Array Slot) (cells slots : Nat), cells + (0) ≤ 0 → slots + (0) ≤ 0 → WS D cy s0 s h H locs → lv_has ls 2 [(0, .ref x0), (1, .int x1)] → W p l e rX10_coded s m args below meth c H locs cells slots (MQ below (QQ D cy s0 (some (.long r.1)) r.2) args s 0 0 (fun q => s0 ≤ q)) (F0 m 0 ls [])
set_option maxRecDepth 100000 in
set_option maxHeartbeats 4000000 in
theorem bX10_coded {D : va_G} {cy : Nat → ClassId} {s0 : Nat} {p : Program} {l : Launch} {e : Env} {s : State} {m : MethodId} {args : Array Value} {below : List Frame} {meth : Method} {c : Code} (C : CX D cy s0 p s m args meth c cX10_coded 2 RX10 (some .long)) (hn : meth.name = "coded") : ∀ (x0 : Nat) (x1 : Int32) (h : Hp) (r : Int64 × Hp), fX10_coded x0 x1 h = some r → pX10_coded D cy s0 p l e s m args below meth c r x0 x1 h := by
  intro x0 x1 h ⟨rv, rh⟩ hf H locs ls cells slots hc hs hw hl
  unfold fX10_coded at hf
  have hx := C.1
  have hb := C.2.1
  refine lv_aload_n hx hb dX10_coded_0 rfl (lv_at hl 0 rfl) ?_
  obtain ⟨z1, e1, hf⟩ := ob hf
  refine r_gR C hw e1 ck10 rfl (by decide) w1009 dX10_coded_1 ?_
  cases z1 with
  | none =>
    have hf := on_n hf
    cases hf
  | some a2 =>
    have hf := on_s hf
    refine W.eq (g2 := F0 m 4 ls [.ref a2]) rfl ?_
    refine lv_iload_n hx hb dX10_coded_4 rfl (lv_at hl 1 rfl) ?_
    obtain ⟨z3, e3, hf⟩ := ob hf
    refine r_zald C hw e3 dX10_coded_5 ?_
    refine lv_if_eq (tgt := 45) hx hb dX10_coded_6 (by decide) (fun c4 => ?_) (fun c4 => ?_)
    · have hf := ip hf c4
      refine lv_ldc2 (v := (-1 : Int64)) hx hb C.2.2.2.1 (C.2.2.2.2.1 _ w1294) dX10_coded_45 ?_
      refine lv_ldc2 (v := (64 : Int64)) hx hb C.2.2.2.1 (C.2.2.2.2.1 _ w1295) dX10_coded_48 ?_
      refine lv_aload_n hx hb dX10_coded_51 rfl (lv_at hl 0 rfl) ?_
      obtain ⟨z5, e5, hf⟩ := ob hf
      refine r_gR C hw e5 ck10 rfl (by decide) w1006 dX10_coded_52 ?_
      cases z5 with
      | none =>
        have hf := on_n hf
        cases hf
      | some a6 =>
        have hf := on_s hf
        refine W.eq (g2 := F0 m 55 ls [.ref a6, .long (64 : Int64), .long (-1 : Int64)]) rfl ?_
        refine lv_iload_n hx hb dX10_coded_55 rfl (lv_at hl 1 rfl) ?_
        obtain ⟨z7, e7, hf⟩ := ob hf
        refine r_iald C hw e7 dX10_coded_56 ?_
        refine lv_i2l (v := (z7.toInt64)) hx hb dX10_coded_57 rfl ?_
        refine lv_lmul hx hb dX10_coded_58 ?_
        refine lv_aload_n hx hb dX10_coded_59 rfl (lv_at hl 0 rfl) ?_
        obtain ⟨z8, e8, hf⟩ := ob hf
        refine r_gR C hw e8 ck10 rfl (by decide) w1007 dX10_coded_60 ?_
        cases z8 with
        | none =>
          have hf := on_n hf
          cases hf
        | some a9 =>
          have hf := on_s hf
          refine W.eq (g2 := F0 m 63 ls [.ref a9, .long ((64 : Int64) * (z7.toInt64)), .long (-1 : Int64)]) rfl ?_
          refine lv_iload_n hx hb dX10_coded_63 rfl (lv_at hl 1 rfl) ?_
          obtain ⟨z10, e10, hf⟩ := ob hf
          refine r_iald C hw e10 dX10_coded_64 ?_
          refine lv_i2l (v := (z10.toInt64)) hx hb dX10_coded_65 rfl ?_
          refine lv_ladd hx hb dX10_coded_66 ?_
          refine lv_lsub hx hb dX10_coded_67 ?_
          obtain ⟨rfl, rfl⟩ := sp hf
          exact r_lret C hw rfl (by omega) (by omega) dX10_coded_68
    · have hf := ie hf c4
      refine lv_aload_n hx hb dX10_coded_9 rfl (lv_at hl 0 rfl) ?_
      obtain ⟨z11, e11, hf⟩ := ob hf
      refine r_gR C hw e11 ck10 rfl (by decide) w1006 dX10_coded_10 ?_
      cases z11 with
      | none =>
        have hf := on_n hf
        cases hf
      | some a12 =>
        have hf := on_s hf
        refine W.eq (g2 := F0 m 13 ls [.ref a12]) rfl ?_
        refine lv_iload_n hx hb dX10_coded_13 rfl (lv_at hl 1 rfl) ?_
        obtain ⟨z13, e13, hf⟩ := ob hf
        refine r_iald C hw e13 dX10_coded_14 ?_
        refine lv_i2l (v := (z13.toInt64)) hx hb dX10_coded_15 rfl ?_
        refine lv_bipush (v := (38 : Int32)) hx hb dX10_coded_16 (by decide) ?_
        refine lv_lshl (v := ((z13.toInt64) <<< ((38 : Int32).toInt64 &&& 63))) hx hb dX10_coded_18 rfl ?_
        refine lv_aload_n hx hb dX10_coded_19 rfl (lv_at hl 0 rfl) ?_
        obtain ⟨z14, e14, hf⟩ := ob hf
        refine r_gR C hw e14 ck10 rfl (by decide) w1007 dX10_coded_20 ?_
        cases z14 with
        | none =>
          have hf := on_n hf
          cases hf
        | some a15 =>
          have hf := on_s hf
          refine W.eq (g2 := F0 m 23 ls [.ref a15, .long ((z13.toInt64) <<< ((38 : Int32).toInt64 &&& 63))]) rfl ?_
          refine lv_iload_n hx hb dX10_coded_23 rfl (lv_at hl 1 rfl) ?_
          obtain ⟨z16, e16, hf⟩ := ob hf
          refine r_iald C hw e16 dX10_coded_24 ?_
          refine lv_i2l (v := (z16.toInt64)) hx hb dX10_coded_25 rfl ?_
          refine lv_bipush (v := (32 : Int32)) hx hb dX10_coded_26 (by decide) ?_
          refine lv_lshl (v := ((z16.toInt64) <<< ((32 : Int32).toInt64 &&& 63))) hx hb dX10_coded_28 rfl ?_
          refine lv_ladd hx hb dX10_coded_29 ?_
          refine lv_aload_n hx hb dX10_coded_30 rfl (lv_at hl 0 rfl) ?_
          obtain ⟨z17, e17, hf⟩ := ob hf
          refine r_gR C hw e17 ck10 rfl (by decide) w1008 dX10_coded_31 ?_
          cases z17 with
          | none =>
            have hf := on_n hf
            cases hf
          | some a18 =>
            have hf := on_s hf
            refine W.eq (g2 := F0 m 34 ls [.ref a18, .long (((z13.toInt64) <<< ((38 : Int32).toInt64 &&& 63)) + ((z16.toInt64) <<< ((32 : Int32).toInt64 &&& 63)))]) rfl ?_
            refine lv_iload_n hx hb dX10_coded_34 rfl (lv_at hl 1 rfl) ?_
            obtain ⟨z19, e19, hf⟩ := ob hf
            refine r_iald C hw e19 dX10_coded_35 ?_
            refine lv_i2l (v := (z19.toInt64)) hx hb dX10_coded_36 rfl ?_
            refine lv_ldc2 (v := (4294967295 : Int64)) hx hb C.2.2.2.1 (C.2.2.2.2.1 _ w1293) dX10_coded_37 ?_
            refine lv_land hx hb dX10_coded_40 ?_
            refine lv_ladd hx hb dX10_coded_41 ?_
            refine lv_goto (tgt := 68) hx hb dX10_coded_42 (by decide) ?_
            obtain ⟨rfl, rfl⟩ := sp hf
            exact r_lret C hw rfl (by omega) (by omega) dX10_coded_68
theorem kXX10_coded : MK yX10_coded cX10_coded 2 (some .long) 1 := ⟨w1292, w8, by decide +kernel⟩
theorem mX10_coded {D : va_G} {cy : Nat → ClassId} {s0 : Nat} {l : Launch} {x0 : Nat} {x1 : Int32} {h : Hp} {v : Int64} {h1 : Hp} (hf : fX10_coded x0 x1 h = some (v, h1)) : MT D cy s0 l yX10_coded cX10_coded 2 (some .long) rX10_coded [.ref x0, .int x1] h (some (.long v)) h1 := by
  refine MT.of (by decide +kernel) (Nat.le_of_ble_eq_true rfl) ?_
  intro p e s m below meth c H locs ls C hn hw hl
  exact bX10_coded C hn _ _ _ _ hf _ _ _ _ _ (Nat.le_of_ble_eq_true rfl) (Nat.le_of_ble_eq_true rfl) hw hl
abbrev rX10_counts : Room := { frames := 4, cells := 0, slots := 0, locals := 95 }
abbrev pX10_counts_130 (D : va_G) (cy : Nat → ClassId) (s0 : Nat) (p : Program) (l : Launch) (e : Env) (s : State) (m : MethodId) (args : Array Value) (below : List Frame) (meth : Method) (c : Code) (r : Unit × Hp) (x0 : Nat) (x1 : Int32) (h : Hp) : Prop := ∀ (H : Heap) (locs : List Loc) (ls : Array Slot) (cells slots : Nat), cells + (0) ≤ 0 → slots + (0) ≤ 0 → WS D cy s0 s h H locs → lv_has ls 5 [(0, .ref x0), (1, .int x1)] → W p l e rX10_counts s m args below meth c H locs cells slots (MQ below (QQ D cy s0 none r.2) args s 0 0 (fun q => s0 ≤ q)) (F0 m 130 ls [])
abbrev pX10_counts_59 (D : va_G) (cy : Nat → ClassId) (s0 : Nat) (p : Program) (l : Launch) (e : Env) (s : State) (m : MethodId) (args : Array Value) (below : List Frame) (meth : Method) (c : Code) (r : Unit × Hp) (x0 : Nat) (x1 : Int32) (x4 : Int32) (h : Hp) : Prop := ∀ (H : Heap) (locs : List Loc) (ls : Array Slot) (cells slots : Nat), cells + (0) ≤ 0 → slots + (0) ≤ 0 → WS D cy s0 s h H locs → lv_has ls 5 [(0, .ref x0), (1, .int x1), (4, .int x4)] → W p l e rX10_counts s m args below meth c H locs cells slots (MQ below (QQ D cy s0 none r.2) args s 0 0 (fun q => s0 ≤ q)) (F0 m 59 ls [])
abbrev pX10_counts_17 (D : va_G) (cy : Nat → ClassId) (s0 : Nat) (p : Program) (l : Launch) (e : Env) (s : State) (m : MethodId) (args : Array Value) (below : List Frame) (meth : Method) (c : Code) (r : Unit × Hp) (x0 : Nat) (x1 : Int32) (x3 : Int32) (x4 : Int32) (h : Hp) : Prop := ∀ (H : Heap) (locs : List Loc) (ls : Array Slot) (cells slots : Nat), cells + (0) ≤ 0 → slots + (0) ≤ 0 → WS D cy s0 s h H locs → lv_has ls 5 [(0, .ref x0), (1, .int x1), (3, .int x3), (4, .int x4)] → W p l e rX10_counts s m args below meth c H locs cells slots (MQ below (QQ D cy s0 none r.2) args s 0 0 (fun q => s0 ≤ q)) (F0 m 17 ls [])
abbrev pX10_counts (D : va_G) (cy : Nat → ClassId) (s0 : Nat) (p : Program) (l : Launch) (e : Env) (s : State) (m : MethodId) (args : Array Value) (below : List Frame) (meth : Method) (c : Code) (r : Unit × Hp) (x0 : Nat) (x1 : Int32) (x2 : Int32) (h : Hp) : Prop := ∀ (H : Heap) (locs : List Loc) (ls : Array Slot) (cells slots : Nat), cells + (0) ≤ 0 → slots + (0) ≤ 0 → WS D cy s0 s h H locs → lv_has ls 5 [(0, .ref x0), (1, .int x1), (2, .int x2)] → W p l e rX10_counts s m args below meth c H locs cells slots (MQ below (QQ D cy s0 none r.2) args s 0 0 (fun q => s0 ≤ q)) (F0 m 0 ls [])
set_option maxRecDepth 100000 in
set_option maxHeartbeats 4000000 in
theorem bX10_counts_130 {D : va_G} {cy : Nat → ClassId} {s0 : Nat} {p : Program} {l : Launch} {e : Env} {s : State} {m : MethodId} {args : Array Value} {below : List Frame} {meth : Method} {c : Code} (C : CX D cy s0 p s m args meth c cX10_counts 5 RX10 none) (hn : meth.name = "counts") : ∀ (x0 : Nat) (x1 : Int32) (h : Hp) (r : Unit × Hp), fX10_counts_130 x0 x1 h = some r → pX10_counts_130 D cy s0 p l e s m args below meth c r x0 x1 h := by
  intro x0 x1 h ⟨rv, rh⟩ hf H locs ls cells slots hc hs hw hl
  unfold fX10_counts_130 at hf
  have hx := C.1
  have hb := C.2.1
  refine lv_aload_n hx hb dX10_counts_130 rfl (lv_at hl 0 rfl) ?_
  refine lv_iload_n hx hb dX10_counts_131 rfl (lv_at hl 1 rfl) ?_
  obtain ⟨kb1, hf⟩ := ig hf
  obtain ⟨z1, h1, e1, hf⟩ := ob2 hf
  refine r_callV C hw (mX10_sendAll e1) kXX10_sendAll ck10 rfl kb1 w1184 w1186 v47 ⟨Nat.le_of_ble_eq_true rfl, Nat.le_of_ble_eq_true rfl⟩ rfl hl.1 (rest := []) rfl (Nat.le_of_ble_eq_true rfl) dX10_counts_132 (mc := 0) (ms := 0) rfl rfl ⟨by show _ + 0 ≤ 0; omega, by show _ + 0 ≤ 0; omega⟩ (fun H locs hw => ?_)
  refine W.eq (g2 := F0 m 135 ls []) rfl ?_
  obtain ⟨rfl, rfl⟩ := sp hf
  exact r_vret C hw rfl (by omega) (by omega) dX10_counts_135
set_option maxRecDepth 100000 in
set_option maxHeartbeats 4000000 in
theorem bX10_counts_59_body {D : va_G} {cy : Nat → ClassId} {s0 : Nat} {p : Program} {l : Launch} {e : Env} {s : State} {m : MethodId} {args : Array Value} {below : List Frame} {meth : Method} {c : Code} (C : CX D cy s0 p s m args meth c cX10_counts 5 RX10 none) (hn : meth.name = "counts") {k59 : Nat → Int32 → Int32 → Hp → Option (Unit × Hp)} (hk59 : ∀ (x0 : Nat) (x1 : Int32) (x4 : Int32) (h : Hp) (r : Unit × Hp), k59 x0 x1 x4 h = some r → pX10_counts_59 D cy s0 p l e s m args below meth c r x0 x1 x4 h) : ∀ (x0 : Nat) (x1 : Int32) (x4 : Int32) (h : Hp) (r : Unit × Hp), fX10_counts_59_body k59 x0 x1 x4 h = some r → pX10_counts_59 D cy s0 p l e s m args below meth c r x0 x1 x4 h := by
  intro x0 x1 x4 h ⟨rv, rh⟩ hf H locs ls cells slots hc hs hw hl
  unfold fX10_counts_59_body at hf
  have hx := C.1
  have hb := C.2.1
  refine lv_iload hx hb dX10_counts_59 (lv_at hl 2 rfl) ?_
  refine lv_iconst (v := (5 : Int32)) hx hb dX10_counts_61 (by decide) ?_
  refine lv_icmp_ge (tgt := 102) hx hb dX10_counts_62 (by decide) (fun c1 => ?_) (fun c1 => ?_)
  · have hf := ip hf c1
    refine lv_aload_n hx hb dX10_counts_102 rfl (lv_at hl 0 rfl) ?_
    obtain ⟨z2, e2, hf⟩ := ob hf
    refine r_gR C hw e2 ck10 rfl (by decide) w968 dX10_counts_103 ?_
    cases z2 with
    | none =>
      have hf := on_n hf
      cases hf
    | some a3 =>
      have hf := on_s hf
      refine W.eq (g2 := F0 m 106 ls [.ref a3]) rfl ?_
      refine lv_iload_n hx hb dX10_counts_106 rfl (lv_at hl 1 rfl) ?_
      obtain ⟨z4, e4, hf⟩ := ob hf
      refine r_iald C hw e4 dX10_counts_107 ?_
      refine lv_sipush (v := (1200 : Int32)) hx hb dX10_counts_108 (by decide) ?_
      refine lv_icmp_ge (tgt := 130) hx hb dX10_counts_111 (by decide) (fun c5 => ?_) (fun c5 => ?_)
      · have hf := ip hf c5
        exact bX10_counts_130 C hn _ _ _ _ hf _ _ _ _ _ (by omega) (by omega) hw (lv_sub hl [0, 1] rfl)
      · have hf := ie hf c5
        refine lv_aload_n hx hb dX10_counts_114 rfl (lv_at hl 0 rfl) ?_
        refine lv_iload_n hx hb dX10_counts_115 rfl (lv_at hl 1 rfl) ?_
        refine lv_iconst (v := (0 : Int32)) hx hb dX10_counts_116 (by decide) ?_
        refine lv_iconst (v := (0 : Int32)) hx hb dX10_counts_117 (by decide) ?_
        refine lv_iconst (v := (0 : Int32)) hx hb dX10_counts_118 (by decide) ?_
        refine lv_iconst (v := (0 : Int32)) hx hb dX10_counts_119 (by decide) ?_
        refine lv_iconst (v := (0 : Int32)) hx hb dX10_counts_120 (by decide) ?_
        refine lv_iconst (v := (0 : Int32)) hx hb dX10_counts_121 (by decide) ?_
        refine lv_iconst (v := (0 : Int32)) hx hb dX10_counts_122 (by decide) ?_
        obtain ⟨kb6, hf⟩ := ig hf
        obtain ⟨z6, h6, e6, hf⟩ := ob2 hf
        refine r_callV C hw (mX10_adds e6) kXX10_adds ck10 rfl kb6 w1176 w1178 v45 ⟨Nat.le_of_ble_eq_true rfl, Nat.le_of_ble_eq_true rfl⟩ rfl hl.1 (rest := []) rfl (Nat.le_of_ble_eq_true rfl) dX10_counts_123 (mc := 0) (ms := 0) rfl rfl ⟨by show _ + 0 ≤ 0; omega, by show _ + 0 ≤ 0; omega⟩ (fun H locs hw => ?_)
        refine W.eq (g2 := F0 m 126 ls [.int z6]) rfl ?_
        refine lv_if_ne (tgt := 130) hx hb dX10_counts_126 (by decide) (fun c7 => ?_) (fun c7 => ?_)
        · have hf := ie hf c7
          exact bX10_counts_130 C hn _ _ _ _ hf _ _ _ _ _ (by omega) (by omega) hw (lv_sub hl [0, 1] rfl)
        · have hf := ip hf c7
          obtain ⟨rfl, rfl⟩ := sp hf
          exact r_vret C hw rfl (by omega) (by omega) dX10_counts_129
  · have hf := ie hf c1
    refine lv_aload_n hx hb dX10_counts_65 rfl (lv_at hl 0 rfl) ?_
    obtain ⟨z8, e8, hf⟩ := ob hf
    refine r_gR C hw e8 ck10 rfl (by decide) w974 dX10_counts_66 ?_
    cases z8 with
    | none =>
      have hf := on_n hf
      cases hf
    | some a9 =>
      have hf := on_s hf
      refine W.eq (g2 := F0 m 69 ls [.ref a9]) rfl ?_
      refine lv_iconst (v := (5 : Int32)) hx hb dX10_counts_69 (by decide) ?_
      refine lv_iload_n hx hb dX10_counts_70 rfl (lv_at hl 1 rfl) ?_
      refine lv_imul hx hb dX10_counts_71 ?_
      refine lv_iload hx hb dX10_counts_72 (lv_at hl 2 rfl) ?_
      refine lv_iadd hx hb dX10_counts_74 ?_
      refine lv_aload_n hx hb dX10_counts_75 rfl (lv_at hl 0 rfl) ?_
      obtain ⟨z10, e10, hf⟩ := ob hf
      refine r_gR C hw e10 ck10 rfl (by decide) w968 dX10_counts_76 ?_
      cases z10 with
      | none =>
        have hf := on_n hf
        cases hf
      | some a11 =>
        have hf := on_s hf
        refine W.eq (g2 := F0 m 79 ls [.ref a11, .int (((5 : Int32) * x1) + x4), .ref a9]) rfl ?_
        refine lv_iload_n hx hb dX10_counts_79 rfl (lv_at hl 1 rfl) ?_
        obtain ⟨z12, e12, hf⟩ := ob hf
        refine r_iald C hw e12 dX10_counts_80 ?_
        refine lv_iconst (v := (1 : Int32)) hx hb dX10_counts_81 (by decide) ?_
        refine lv_iadd hx hb dX10_counts_82 ?_
        obtain ⟨h13, e13, hf⟩ := ob hf
        refine r_iast C hw e13 dX10_counts_83 (fun H locs hw => ?_)
        refine lv_aload_n hx hb dX10_counts_84 rfl (lv_at hl 0 rfl) ?_
        obtain ⟨z14, e14, hf⟩ := ob hf
        refine r_gR C hw e14 ck10 rfl (by decide) w975 dX10_counts_85 ?_
        cases z14 with
        | none =>
          have hf := on_n hf
          cases hf
        | some a15 =>
          have hf := on_s hf
          refine W.eq (g2 := F0 m 88 ls [.ref a15]) rfl ?_
          refine lv_iconst (v := (5 : Int32)) hx hb dX10_counts_88 (by decide) ?_
          refine lv_iload_n hx hb dX10_counts_89 rfl (lv_at hl 1 rfl) ?_
          refine lv_imul hx hb dX10_counts_90 ?_
          refine lv_iload hx hb dX10_counts_91 (lv_at hl 2 rfl) ?_
          refine lv_iadd hx hb dX10_counts_93 ?_
          refine lv_iconst (v := (0 : Int32)) hx hb dX10_counts_94 (by decide) ?_
          obtain ⟨h16, e16, hf⟩ := ob hf
          refine r_iast C hw e16 dX10_counts_95 (fun H locs hw => ?_)
          refine lv_iinc (v := (x4 + (1 : Int32))) (lv' := [(4, .int (x4 + (1 : Int32))), (0, .ref x0), (1, .int x1)]) hx hb dX10_counts_96 hl (k := 2) rfl rfl (by decide) rfl (fun ls hl => ?_)
          refine lv_goto (tgt := 59) hx hb dX10_counts_99 (by decide) ?_
          exact hk59 _ _ _ _ _ hf _ _ _ _ _ (by omega) (by omega) hw (lv_sub hl [1, 2, 0] rfl)
set_option maxRecDepth 100000 in
set_option maxHeartbeats 4000000 in
theorem bX10_counts_59 {D : va_G} {cy : Nat → ClassId} {s0 : Nat} {p : Program} {l : Launch} {e : Env} {s : State} {m : MethodId} {args : Array Value} {below : List Frame} {meth : Method} {c : Code} (C : CX D cy s0 p s m args meth c cX10_counts 5 RX10 none) (hn : meth.name = "counts") : ∀ (n : Nat) (x0 : Nat) (x1 : Int32) (x4 : Int32) (h : Hp) (r : Unit × Hp), fX10_counts_59 n x0 x1 x4 h = some r → pX10_counts_59 D cy s0 p l e s m args below meth c r x0 x1 x4 h := by
  intro n
  induction n with
  | zero => intro x0 x1 x4 h r hf; exact absurd hf (fun q => by cases q)
  | succ n ih => exact bX10_counts_59_body C hn ih
set_option maxRecDepth 100000 in
set_option maxHeartbeats 4000000 in
theorem bX10_counts_17_body {D : va_G} {cy : Nat → ClassId} {s0 : Nat} {p : Program} {l : Launch} {e : Env} {s : State} {m : MethodId} {args : Array Value} {below : List Frame} {meth : Method} {c : Code} (C : CX D cy s0 p s m args meth c cX10_counts 5 RX10 none) (hn : meth.name = "counts") {k17 : Nat → Int32 → Int32 → Int32 → Hp → Option (Unit × Hp)} (hk17 : ∀ (x0 : Nat) (x1 : Int32) (x3 : Int32) (x4 : Int32) (h : Hp) (r : Unit × Hp), k17 x0 x1 x3 x4 h = some r → pX10_counts_17 D cy s0 p l e s m args below meth c r x0 x1 x3 x4 h) : ∀ (x0 : Nat) (x1 : Int32) (x3 : Int32) (x4 : Int32) (h : Hp) (r : Unit × Hp), fX10_counts_17_body k17 x0 x1 x3 x4 h = some r → pX10_counts_17 D cy s0 p l e s m args below meth c r x0 x1 x3 x4 h := by
  intro x0 x1 x3 x4 h ⟨rv, rh⟩ hf H locs ls cells slots hc hs hw hl
  unfold fX10_counts_17_body at hf
  have hx := C.1
  have hb := C.2.1
  refine lv_iload hx hb dX10_counts_17 (lv_at hl 3 rfl) ?_
  refine lv_iconst (v := (5 : Int32)) hx hb dX10_counts_19 (by decide) ?_
  refine lv_icmp_ge (tgt := 43) hx hb dX10_counts_20 (by decide) (fun c1 => ?_) (fun c1 => ?_)
  · have hf := ip hf c1
    refine lv_iload_n hx hb dX10_counts_43 rfl (lv_at hl 2 rfl) ?_
    refine lv_iconst (v := (3 : Int32)) hx hb dX10_counts_44 (by decide) ?_
    refine lv_icmp_ge (tgt := 49) hx hb dX10_counts_45 (by decide) (fun c2 => ?_) (fun c2 => ?_)
    · have hf := ip hf c2
      refine lv_aload_n hx hb dX10_counts_49 rfl (lv_at hl 0 rfl) ?_
      obtain ⟨z3, e3, hf⟩ := ob hf
      refine r_gR C hw e3 ck10 rfl (by decide) w971 dX10_counts_50 ?_
      cases z3 with
      | none =>
        have hf := on_n hf
        cases hf
      | some a4 =>
        have hf := on_s hf
        refine W.eq (g2 := F0 m 53 ls [.ref a4]) rfl ?_
        refine lv_iload_n hx hb dX10_counts_53 rfl (lv_at hl 1 rfl) ?_
        refine lv_iconst (v := (2 : Int32)) hx hb dX10_counts_54 (by decide) ?_
        obtain ⟨h5, e5, hf⟩ := ob hf
        refine r_iast C hw e5 dX10_counts_55 (fun H locs hw => ?_)
        refine lv_iconst (v := (0 : Int32)) hx hb dX10_counts_56 (by decide) ?_
        refine lv_istore (lv' := [(4, .int (0 : Int32)), (0, .ref x0), (1, .int x1), (3, .int x3)]) hx hb dX10_counts_57 hl (by decide) rfl (fun ls hl => ?_)
        exact bX10_counts_59 C hn LF _ _ _ _ _ hf _ _ _ _ _ (by omega) (by omega) hw (lv_sub hl [1, 2, 0] rfl)
    · have hf := ie hf c2
      obtain ⟨rfl, rfl⟩ := sp hf
      exact r_vret C hw rfl (by omega) (by omega) dX10_counts_48
  · have hf := ie hf c1
    refine lv_iload_n hx hb dX10_counts_23 rfl (lv_at hl 2 rfl) ?_
    refine lv_aload_n hx hb dX10_counts_24 rfl (lv_at hl 0 rfl) ?_
    obtain ⟨z6, e6, hf⟩ := ob hf
    refine r_gR C hw e6 ck10 rfl (by decide) w972 dX10_counts_25 ?_
    cases z6 with
    | none =>
      have hf := on_n hf
      cases hf
    | some a7 =>
      have hf := on_s hf
      refine W.eq (g2 := F0 m 28 ls [.ref a7, .int x3]) rfl ?_
      refine lv_iload_n hx hb dX10_counts_28 rfl (lv_at hl 1 rfl) ?_
      obtain ⟨z8, e8, hf⟩ := ob hf
      refine r_iald C hw e8 dX10_counts_29 ?_
      refine lv_iload hx hb dX10_counts_30 (lv_at hl 3 rfl) ?_
      refine lv_ishr hx hb dX10_counts_32 ?_
      refine lv_iconst (v := (1 : Int32)) hx hb dX10_counts_33 (by decide) ?_
      refine lv_iand hx hb dX10_counts_34 ?_
      refine lv_iadd hx hb dX10_counts_35 ?_
      refine lv_istore_n (lv' := [(3, .int (x3 + ((z8 >>> (x4 &&& 31)) &&& (1 : Int32)))), (0, .ref x0), (1, .int x1), (4, .int x4)]) hx hb dX10_counts_36 rfl hl (by decide) rfl (fun ls hl => ?_)
      refine lv_iinc (v := (x4 + (1 : Int32))) (lv' := [(4, .int (x4 + (1 : Int32))), (3, .int (x3 + ((z8 >>> (x4 &&& 31)) &&& (1 : Int32)))), (0, .ref x0), (1, .int x1)]) hx hb dX10_counts_37 hl (k := 3) rfl rfl (by decide) rfl (fun ls hl => ?_)
      refine lv_goto (tgt := 17) hx hb dX10_counts_40 (by decide) ?_
      exact hk17 _ _ _ _ _ _ hf _ _ _ _ _ (by omega) (by omega) hw (lv_sub hl [2, 3, 1, 0] rfl)
set_option maxRecDepth 100000 in
set_option maxHeartbeats 4000000 in
theorem bX10_counts_17 {D : va_G} {cy : Nat → ClassId} {s0 : Nat} {p : Program} {l : Launch} {e : Env} {s : State} {m : MethodId} {args : Array Value} {below : List Frame} {meth : Method} {c : Code} (C : CX D cy s0 p s m args meth c cX10_counts 5 RX10 none) (hn : meth.name = "counts") : ∀ (n : Nat) (x0 : Nat) (x1 : Int32) (x3 : Int32) (x4 : Int32) (h : Hp) (r : Unit × Hp), fX10_counts_17 n x0 x1 x3 x4 h = some r → pX10_counts_17 D cy s0 p l e s m args below meth c r x0 x1 x3 x4 h := by
  intro n
  induction n with
  | zero => intro x0 x1 x3 x4 h r hf; exact absurd hf (fun q => by cases q)
  | succ n ih => exact bX10_counts_17_body C hn ih
set_option maxRecDepth 100000 in
set_option maxHeartbeats 4000000 in
theorem bX10_counts {D : va_G} {cy : Nat → ClassId} {s0 : Nat} {p : Program} {l : Launch} {e : Env} {s : State} {m : MethodId} {args : Array Value} {below : List Frame} {meth : Method} {c : Code} (C : CX D cy s0 p s m args meth c cX10_counts 5 RX10 none) (hn : meth.name = "counts") : ∀ (x0 : Nat) (x1 : Int32) (x2 : Int32) (h : Hp) (r : Unit × Hp), fX10_counts x0 x1 x2 h = some r → pX10_counts D cy s0 p l e s m args below meth c r x0 x1 x2 h := by
  intro x0 x1 x2 h ⟨rv, rh⟩ hf H locs ls cells slots hc hs hw hl
  unfold fX10_counts at hf
  have hx := C.1
  have hb := C.2.1
  refine lv_aload_n hx hb dX10_counts_0 rfl (lv_at hl 0 rfl) ?_
  obtain ⟨z1, e1, hf⟩ := ob hf
  refine r_gR C hw e1 ck10 rfl (by decide) w972 dX10_counts_1 ?_
  cases z1 with
  | none =>
    have hf := on_n hf
    cases hf
  | some a2 =>
    have hf := on_s hf
    refine W.eq (g2 := F0 m 4 ls [.ref a2]) rfl ?_
    refine lv_iload_n hx hb dX10_counts_4 rfl (lv_at hl 1 rfl) ?_
    refine lv_dup2_11 hx hb dX10_counts_5 rfl rfl ?_
    obtain ⟨z3, e3, hf⟩ := ob hf
    refine r_iald C hw e3 dX10_counts_6 ?_
    refine lv_iconst (v := (1 : Int32)) hx hb dX10_counts_7 (by decide) ?_
    refine lv_iload_n hx hb dX10_counts_8 rfl (lv_at hl 2 rfl) ?_
    refine lv_ishl hx hb dX10_counts_9 ?_
    refine lv_ior hx hb dX10_counts_10 ?_
    obtain ⟨h4, e4, hf⟩ := ob hf
    refine r_iast C hw e4 dX10_counts_11 (fun H locs hw => ?_)
    refine lv_iconst (v := (0 : Int32)) hx hb dX10_counts_12 (by decide) ?_
    refine lv_istore_n (lv' := [(3, .int (0 : Int32)), (0, .ref x0), (1, .int x1), (2, .int x2)]) hx hb dX10_counts_13 rfl hl (by decide) rfl (fun ls hl => ?_)
    refine lv_iconst (v := (0 : Int32)) hx hb dX10_counts_14 (by decide) ?_
    refine lv_istore (lv' := [(4, .int (0 : Int32)), (3, .int (0 : Int32)), (0, .ref x0), (1, .int x1), (2, .int x2)]) hx hb dX10_counts_15 hl (by decide) rfl (fun ls hl => ?_)
    exact bX10_counts_17 C hn LF _ _ _ _ _ _ hf _ _ _ _ _ (by omega) (by omega) hw (lv_sub hl [2, 3, 1, 0] rfl)
theorem kXX10_counts : MK yX10_counts cX10_counts 5 none 2 := ⟨w1175, w8, by decide +kernel⟩
theorem mX10_counts {D : va_G} {cy : Nat → ClassId} {s0 : Nat} {l : Launch} {x0 : Nat} {x1 : Int32} {x2 : Int32} {h : Hp} {v : Unit} {h1 : Hp} (hf : fX10_counts x0 x1 x2 h = some (v, h1)) : MT D cy s0 l yX10_counts cX10_counts 5 none rX10_counts [.ref x0, .int x1, .int x2] h none h1 := by
  refine MT.of (by decide +kernel) (Nat.le_of_ble_eq_true rfl) ?_
  intro p e s m below meth c H locs ls C hn hw hl
  exact bX10_counts C hn _ _ _ _ _ hf _ _ _ _ _ (Nat.le_of_ble_eq_true rfl) (Nat.le_of_ble_eq_true rfl) hw hl
abbrev rX10_crash : Room := { frames := 1, cells := 0, slots := 0, locals := 22 }
abbrev pX10_crash_35 (D : va_G) (cy : Nat → ClassId) (s0 : Nat) (p : Program) (l : Launch) (e : Env) (s : State) (m : MethodId) (args : Array Value) (below : List Frame) (meth : Method) (c : Code) (r : Unit × Hp) (x0 : Nat) (x1 : Int32) (y0 : Int32) (y1 : Nat) (h : Hp) : Prop := ∀ (H : Heap) (locs : List Loc) (ls : Array Slot) (cells slots : Nat), cells + (0) ≤ 0 → slots + (0) ≤ 0 → WS D cy s0 s h H locs → lv_has ls 2 [(0, .ref x0), (1, .int x1)] → W p l e rX10_crash s m args below meth c H locs cells slots (MQ below (QQ D cy s0 none r.2) args s 0 0 (fun q => s0 ≤ q)) (F0 m 35 ls [.int y0, .ref y1])
abbrev pX10_crash_13 (D : va_G) (cy : Nat → ClassId) (s0 : Nat) (p : Program) (l : Launch) (e : Env) (s : State) (m : MethodId) (args : Array Value) (below : List Frame) (meth : Method) (c : Code) (r : Unit × Hp) (x0 : Nat) (x1 : Int32) (y0 : Int32) (y1 : Nat) (h : Hp) : Prop := ∀ (H : Heap) (locs : List Loc) (ls : Array Slot) (cells slots : Nat), cells + (0) ≤ 0 → slots + (0) ≤ 0 → WS D cy s0 s h H locs → lv_has ls 2 [(0, .ref x0), (1, .int x1)] → W p l e rX10_crash s m args below meth c H locs cells slots (MQ below (QQ D cy s0 none r.2) args s 0 0 (fun q => s0 ≤ q)) (F0 m 13 ls [.int y0, .ref y1])
abbrev pX10_crash (D : va_G) (cy : Nat → ClassId) (s0 : Nat) (p : Program) (l : Launch) (e : Env) (s : State) (m : MethodId) (args : Array Value) (below : List Frame) (meth : Method) (c : Code) (r : Unit × Hp) (x0 : Nat) (x1 : Int32) (h : Hp) : Prop := ∀ (H : Heap) (locs : List Loc) (ls : Array Slot) (cells slots : Nat), cells + (0) ≤ 0 → slots + (0) ≤ 0 → WS D cy s0 s h H locs → lv_has ls 2 [(0, .ref x0), (1, .int x1)] → W p l e rX10_crash s m args below meth c H locs cells slots (MQ below (QQ D cy s0 none r.2) args s 0 0 (fun q => s0 ≤ q)) (F0 m 0 ls [])
set_option maxRecDepth 100000 in
set_option maxHeartbeats 4000000 in
theorem bX10_crash_35 {D : va_G} {cy : Nat → ClassId} {s0 : Nat} {p : Program} {l : Launch} {e : Env} {s : State} {m : MethodId} {args : Array Value} {below : List Frame} {meth : Method} {c : Code} (C : CX D cy s0 p s m args meth c cX10_crash 2 RX10 none) (hn : meth.name = "crash") : ∀ (x0 : Nat) (x1 : Int32) (y0 : Int32) (y1 : Nat) (h : Hp) (r : Unit × Hp), fX10_crash_35 x0 x1 y0 y1 h = some r → pX10_crash_35 D cy s0 p l e s m args below meth c r x0 x1 y0 y1 h := by
  intro x0 x1 y0 y1 h ⟨rv, rh⟩ hf H locs ls cells slots hc hs hw hl
  unfold fX10_crash_35 at hf
  have hx := C.1
  have hb := C.2.1
  refine lv_iconst (v := (2 : Int32)) hx hb dX10_crash_35 (by decide) ?_
  obtain ⟨kb1, hf⟩ := ig hf
  obtain ⟨z1, h1, e1, hf⟩ := ob2 hf
  refine r_callV C hw (mX10_bad e1) kXX10_bad ck10 rfl kb1 w1132 w1134 v35 ⟨Nat.le_of_ble_eq_true rfl, Nat.le_of_ble_eq_true rfl⟩ rfl hl.1 (rest := []) rfl (Nat.le_of_ble_eq_true rfl) dX10_crash_36 (mc := 0) (ms := 0) rfl rfl ⟨by show _ + 0 ≤ 0; omega, by show _ + 0 ≤ 0; omega⟩ (fun H locs hw => ?_)
  refine W.eq (g2 := F0 m 39 ls [.int z1]) rfl ?_
  refine lv_if_ne (tgt := 47) hx hb dX10_crash_39 (by decide) (fun c2 => ?_) (fun c2 => ?_)
  · have hf := ie hf c2
    obtain ⟨rfl, rfl⟩ := sp hf
    exact r_vret C hw rfl (by omega) (by omega) dX10_crash_47
  · have hf := ip hf c2
    refine lv_aload_n hx hb dX10_crash_42 rfl (lv_at hl 0 rfl) ?_
    refine lv_iload_n hx hb dX10_crash_43 rfl (lv_at hl 1 rfl) ?_
    obtain ⟨kb3, hf⟩ := ig hf
    obtain ⟨z3, h3, e3, hf⟩ := ob2 hf
    refine r_callV C hw (mX10_down e3) kXX10_down ck10 rfl kb3 w1140 w1142 v37 ⟨Nat.le_of_ble_eq_true rfl, Nat.le_of_ble_eq_true rfl⟩ rfl hl.1 (rest := []) rfl (Nat.le_of_ble_eq_true rfl) dX10_crash_44 (mc := 0) (ms := 0) rfl rfl ⟨by show _ + 0 ≤ 0; omega, by show _ + 0 ≤ 0; omega⟩ (fun H locs hw => ?_)
    refine W.eq (g2 := F0 m 47 ls []) rfl ?_
    obtain ⟨rfl, rfl⟩ := sp hf
    exact r_vret C hw rfl (by omega) (by omega) dX10_crash_47
set_option maxRecDepth 100000 in
set_option maxHeartbeats 4000000 in
theorem bX10_crash_13 {D : va_G} {cy : Nat → ClassId} {s0 : Nat} {p : Program} {l : Launch} {e : Env} {s : State} {m : MethodId} {args : Array Value} {below : List Frame} {meth : Method} {c : Code} (C : CX D cy s0 p s m args meth c cX10_crash 2 RX10 none) (hn : meth.name = "crash") : ∀ (x0 : Nat) (x1 : Int32) (y0 : Int32) (y1 : Nat) (h : Hp) (r : Unit × Hp), fX10_crash_13 x0 x1 y0 y1 h = some r → pX10_crash_13 D cy s0 p l e s m args below meth c r x0 x1 y0 y1 h := by
  intro x0 x1 y0 y1 h ⟨rv, rh⟩ hf H locs ls cells slots hc hs hw hl
  unfold fX10_crash_13 at hf
  have hx := C.1
  have hb := C.2.1
  refine lv_iconst (v := (1 : Int32)) hx hb dX10_crash_13 (by decide) ?_
  obtain ⟨kb1, hf⟩ := ig hf
  obtain ⟨z1, h1, e1, hf⟩ := ob2 hf
  refine r_callV C hw (mX10_bad e1) kXX10_bad ck10 rfl kb1 w1132 w1134 v35 ⟨Nat.le_of_ble_eq_true rfl, Nat.le_of_ble_eq_true rfl⟩ rfl hl.1 (rest := []) rfl (Nat.le_of_ble_eq_true rfl) dX10_crash_14 (mc := 0) (ms := 0) rfl rfl ⟨by show _ + 0 ≤ 0; omega, by show _ + 0 ≤ 0; omega⟩ (fun H locs hw => ?_)
  refine W.eq (g2 := F0 m 17 ls [.int z1]) rfl ?_
  refine lv_if_ne (tgt := 47) hx hb dX10_crash_17 (by decide) (fun c2 => ?_) (fun c2 => ?_)
  · have hf := ie hf c2
    obtain ⟨rfl, rfl⟩ := sp hf
    exact r_vret C hw rfl (by omega) (by omega) dX10_crash_47
  · have hf := ip hf c2
    refine lv_aload_n hx hb dX10_crash_20 rfl (lv_at hl 0 rfl) ?_
    refine lv_aload_n hx hb dX10_crash_21 rfl (lv_at hl 0 rfl) ?_
    obtain ⟨z3, e3, hf⟩ := ob hf
    refine r_gR C hw e3 ck10 rfl (by decide) w964 dX10_crash_22 ?_
    cases z3 with
    | none =>
      have hf := on_n hf
      cases hf
    | some a4 =>
      have hf := on_s hf
      refine W.eq (g2 := F0 m 25 ls [.ref a4, .ref x0]) rfl ?_
      refine lv_iload_n hx hb dX10_crash_25 rfl (lv_at hl 1 rfl) ?_
      obtain ⟨z5, e5, hf⟩ := ob hf
      refine r_zald C hw e5 dX10_crash_26 ?_
      refine lv_if_ne (tgt := 34) hx hb dX10_crash_27 (by decide) (fun c6 => ?_) (fun c6 => ?_)
      · have hf := ie hf c6
        refine lv_iconst (v := (0 : Int32)) hx hb dX10_crash_34 (by decide) ?_
        exact bX10_crash_35 C hn _ _ _ _ _ _ hf _ _ _ _ _ (by omega) (by omega) hw (lv_sub hl [0, 1] rfl)
      · have hf := ip hf c6
        refine lv_iconst (v := (1 : Int32)) hx hb dX10_crash_30 (by decide) ?_
        refine lv_goto (tgt := 35) hx hb dX10_crash_31 (by decide) ?_
        exact bX10_crash_35 C hn _ _ _ _ _ _ hf _ _ _ _ _ (by omega) (by omega) hw (lv_sub hl [0, 1] rfl)
set_option maxRecDepth 100000 in
set_option maxHeartbeats 4000000 in
theorem bX10_crash {D : va_G} {cy : Nat → ClassId} {s0 : Nat} {p : Program} {l : Launch} {e : Env} {s : State} {m : MethodId} {args : Array Value} {below : List Frame} {meth : Method} {c : Code} (C : CX D cy s0 p s m args meth c cX10_crash 2 RX10 none) (hn : meth.name = "crash") : ∀ (x0 : Nat) (x1 : Int32) (h : Hp) (r : Unit × Hp), fX10_crash x0 x1 h = some r → pX10_crash D cy s0 p l e s m args below meth c r x0 x1 h := by
  intro x0 x1 h ⟨rv, rh⟩ hf H locs ls cells slots hc hs hw hl
  unfold fX10_crash at hf
  have hx := C.1
  have hb := C.2.1
  refine lv_aload_n hx hb dX10_crash_0 rfl (lv_at hl 0 rfl) ?_
  refine lv_iload_n hx hb dX10_crash_1 rfl (lv_at hl 1 rfl) ?_
  obtain ⟨z1, h1, e1, hf⟩ := ob2 hf
  refine r_callS C hw (mX10_isNode e1) kXX10_isNode w1129 w1130 ⟨Nat.le_of_ble_eq_true rfl, Nat.le_of_ble_eq_true rfl⟩ rfl hl.1 (rest := [.ref x0]) rfl (Nat.le_of_ble_eq_true rfl) dX10_crash_2 (mc := 0) (ms := 0) rfl rfl ⟨by show _ + 0 ≤ 0; omega, by show _ + 0 ≤ 0; omega⟩ (fun H locs hw => ?_)
  refine W.eq (g2 := F0 m 5 ls [.int z1, .ref x0]) rfl ?_
  refine lv_if_ne (tgt := 12) hx hb dX10_crash_5 (by decide) (fun c2 => ?_) (fun c2 => ?_)
  · have hf := ie hf c2
    refine lv_iconst (v := (0 : Int32)) hx hb dX10_crash_12 (by decide) ?_
    exact bX10_crash_13 C hn _ _ _ _ _ _ hf _ _ _ _ _ (by omega) (by omega) hw (lv_sub hl [0, 1] rfl)
  · have hf := ip hf c2
    refine lv_iconst (v := (1 : Int32)) hx hb dX10_crash_8 (by decide) ?_
    refine lv_goto (tgt := 13) hx hb dX10_crash_9 (by decide) ?_
    exact bX10_crash_13 C hn _ _ _ _ _ _ hf _ _ _ _ _ (by omega) (by omega) hw (lv_sub hl [0, 1] rfl)
theorem kXX10_crash : MK yX10_crash cX10_crash 2 none 1 := ⟨w1232, w8, by decide +kernel⟩
theorem mX10_crash {D : va_G} {cy : Nat → ClassId} {s0 : Nat} {l : Launch} {x0 : Nat} {x1 : Int32} {h : Hp} {v : Unit} {h1 : Hp} (hf : fX10_crash x0 x1 h = some (v, h1)) : MT D cy s0 l yX10_crash cX10_crash 2 none rX10_crash [.ref x0, .int x1] h none h1 := by
  refine MT.of (by decide +kernel) (Nat.le_of_ble_eq_true rfl) ?_
  intro p e s m below meth c H locs ls C hn hw hl
  exact bX10_crash C hn _ _ _ _ hf _ _ _ _ _ (Nat.le_of_ble_eq_true rfl) (Nat.le_of_ble_eq_true rfl) hw hl
