abbrev rX10_message : Room := { frames := 1, cells := 0, slots := 0, locals := 22 }
abbrev pX10_message_41 (D : va_G) (cy : Nat → ClassId) (s0 : Nat) (p : Program) (l : Launch) (e : Env) (s : State) (m : MethodId) (args : Array Value) (below : List Frame) (meth : Method) (c : Code) (r : Int32 × Hp) (x0 : Nat) (x1 : Int32) (x2 : Int32) (y0 : Int32) (y1 : Nat) (h : Hp) : Prop := ∀ (H : Heap) (locs : List Loc) (ls : Array Slot) (cells slots : Nat), cells + (0) ≤ 0 → slots + (0) ≤ 0 → WS D cy s0 s h H locs → lv_has ls 3 [(0, .ref x0), (1, .int x1), (2, .int x2)] → W p l e rX10_message s m args below meth c H locs cells slots (MQ below (QQ D cy s0 (some (.int r.1)) r.2) args s 0 0 (fun q => s0 ≤ q)) (F0 m 41 ls [.int y0, .ref y1])
abbrev pX10_message_36 (D : va_G) (cy : Nat → ClassId) (s0 : Nat) (p : Program) (l : Launch) (e : Env) (s : State) (m : MethodId) (args : Array Value) (below : List Frame) (meth : Method) (c : Code) (r : Int32 × Hp) (x0 : Nat) (x1 : Int32) (x2 : Int32) (y0 : Nat) (h : Hp) : Prop := ∀ (H : Heap) (locs : List Loc) (ls : Array Slot) (cells slots : Nat), cells + (0) ≤ 0 → slots + (0) ≤ 0 → WS D cy s0 s h H locs → lv_has ls 3 [(0, .ref x0), (1, .int x1), (2, .int x2)] → W p l e rX10_message s m args below meth c H locs cells slots (MQ below (QQ D cy s0 (some (.int r.1)) r.2) args s 0 0 (fun q => s0 ≤ q)) (F0 m 36 ls [.ref y0])
abbrev pX10_message_18 (D : va_G) (cy : Nat → ClassId) (s0 : Nat) (p : Program) (l : Launch) (e : Env) (s : State) (m : MethodId) (args : Array Value) (below : List Frame) (meth : Method) (c : Code) (r : Int32 × Hp) (x0 : Nat) (x1 : Int32) (x2 : Int32) (y0 : Int32) (y1 : Nat) (h : Hp) : Prop := ∀ (H : Heap) (locs : List Loc) (ls : Array Slot) (cells slots : Nat), cells + (0) ≤ 0 → slots + (0) ≤ 0 → WS D cy s0 s h H locs → lv_has ls 3 [(0, .ref x0), (1, .int x1), (2, .int x2)] → W p l e rX10_message s m args below meth c H locs cells slots (MQ below (QQ D cy s0 (some (.int r.1)) r.2) args s 0 0 (fun q => s0 ≤ q)) (F0 m 18 ls [.int y0, .ref y1])
abbrev pX10_message_13 (D : va_G) (cy : Nat → ClassId) (s0 : Nat) (p : Program) (l : Launch) (e : Env) (s : State) (m : MethodId) (args : Array Value) (below : List Frame) (meth : Method) (c : Code) (r : Int32 × Hp) (x0 : Nat) (x1 : Int32) (x2 : Int32) (y0 : Nat) (h : Hp) : Prop := ∀ (H : Heap) (locs : List Loc) (ls : Array Slot) (cells slots : Nat), cells + (0) ≤ 0 → slots + (0) ≤ 0 → WS D cy s0 s h H locs → lv_has ls 3 [(0, .ref x0), (1, .int x1), (2, .int x2)] → W p l e rX10_message s m args below meth c H locs cells slots (MQ below (QQ D cy s0 (some (.int r.1)) r.2) args s 0 0 (fun q => s0 ≤ q)) (F0 m 13 ls [.ref y0])
abbrev pX10_message (D : va_G) (cy : Nat → ClassId) (s0 : Nat) (p : Program) (l : Launch) (e : Env) (s : State) (m : MethodId) (args : Array Value) (below : List Frame) (meth : Method) (c : Code) (r : Int32 × Hp) (x0 : Nat) (x1 : Int32) (x2 : Int32) (h : Hp) : Prop := ∀ (H : Heap) (locs : List Loc) (ls : Array Slot) (cells slots : Nat), cells + (0) ≤ 0 → slots + (0) ≤ 0 → WS D cy s0 s h H locs → lv_has ls 3 [(0, .ref x0), (1, .int x1), (2, .int x2)] → W p l e rX10_message s m args below meth c H locs cells slots (MQ below (QQ D cy s0 (some (.int r.1)) r.2) args s 0 0 (fun q => s0 ≤ q)) (F0 m 0 ls [])
set_option maxRecDepth 100000 in
set_option maxHeartbeats 4000000 in
theorem bX10_message_41 {D : va_G} {cy : Nat → ClassId} {s0 : Nat} {p : Program} {l : Launch} {e : Env} {s : State} {m : MethodId} {args : Array Value} {below : List Frame} {meth : Method} {c : Code} (C : CX D cy s0 p s m args meth c cX10_message 3 RX10 (some .int)) (hn : meth.name = "message") : ∀ (x0 : Nat) (x1 : Int32) (x2 : Int32) (y0 : Int32) (y1 : Nat) (h : Hp) (r : Int32 × Hp), fX10_message_41 x0 x1 x2 y0 y1 h = some r → pX10_message_41 D cy s0 p l e s m args below meth c r x0 x1 x2 y0 y1 h := by
  intro x0 x1 x2 y0 y1 h ⟨rv, rh⟩ hf H locs ls cells slots hc hs hw hl
  unfold fX10_message_41 at hf
  have hx := C.1
  have hb := C.2.1
  refine lv_iconst (v := (2 : Int32)) hx hb dX10_message_41 (by decide) ?_
  obtain ⟨kb1, hf⟩ := ig hf
  obtain ⟨z1, h1, e1, hf⟩ := ob2 hf
  refine r_callV C hw (mX10_bad e1) kXX10_bad ck10 rfl kb1 w1132 w1134 v35 ⟨Nat.le_of_ble_eq_true rfl, Nat.le_of_ble_eq_true rfl⟩ rfl hl.1 (rest := []) rfl (Nat.le_of_ble_eq_true rfl) dX10_message_42 (mc := 0) (ms := 0) rfl rfl ⟨by show _ + 0 ≤ 0; omega, by show _ + 0 ≤ 0; omega⟩ (fun H locs hw => ?_)
  refine W.eq (g2 := F0 m 45 ls [.int z1]) rfl ?_
  refine lv_if_eq (tgt := 50) hx hb dX10_message_45 (by decide) (fun c2 => ?_) (fun c2 => ?_)
  · have hf := ip hf c2
    refine lv_iload_n hx hb dX10_message_50 rfl (lv_at hl 2 rfl) ?_
    refine lv_if_ne (tgt := 63) hx hb dX10_message_51 (by decide) (fun c3 => ?_) (fun c3 => ?_)
    · have hf := ie hf c3
      refine lv_iload_n hx hb dX10_message_63 rfl (lv_at hl 2 rfl) ?_
      refine lv_iconst (v := (1 : Int32)) hx hb dX10_message_64 (by decide) ?_
      refine lv_icmp_ne (tgt := 77) hx hb dX10_message_65 (by decide) (fun c4 => ?_) (fun c4 => ?_)
      · have hf := ie hf c4
        refine lv_iload_n hx hb dX10_message_77 rfl (lv_at hl 2 rfl) ?_
        refine lv_iconst (v := (2 : Int32)) hx hb dX10_message_78 (by decide) ?_
        refine lv_icmp_ne (tgt := 91) hx hb dX10_message_79 (by decide) (fun c5 => ?_) (fun c5 => ?_)
        · have hf := ie hf c5
          refine lv_iload_n hx hb dX10_message_91 rfl (lv_at hl 2 rfl) ?_
          refine lv_iconst (v := (3 : Int32)) hx hb dX10_message_92 (by decide) ?_
          refine lv_icmp_ne (tgt := 105) hx hb dX10_message_93 (by decide) (fun c6 => ?_) (fun c6 => ?_)
          · have hf := ie hf c6
            refine lv_iload_n hx hb dX10_message_105 rfl (lv_at hl 2 rfl) ?_
            refine lv_iconst (v := (4 : Int32)) hx hb dX10_message_106 (by decide) ?_
            refine lv_icmp_ne (tgt := 119) hx hb dX10_message_107 (by decide) (fun c7 => ?_) (fun c7 => ?_)
            · have hf := ie hf c7
              refine lv_iload_n hx hb dX10_message_119 rfl (lv_at hl 2 rfl) ?_
              refine lv_iconst (v := (5 : Int32)) hx hb dX10_message_120 (by decide) ?_
              refine lv_icmp_ne (tgt := 133) hx hb dX10_message_121 (by decide) (fun c8 => ?_) (fun c8 => ?_)
              · have hf := ie hf c8
                refine lv_iload_n hx hb dX10_message_133 rfl (lv_at hl 2 rfl) ?_
                refine lv_bipush (v := (6 : Int32)) hx hb dX10_message_134 (by decide) ?_
                refine lv_icmp_ne (tgt := 148) hx hb dX10_message_136 (by decide) (fun c9 => ?_) (fun c9 => ?_)
                · have hf := ie hf c9
                  refine lv_aload_n hx hb dX10_message_148 rfl (lv_at hl 0 rfl) ?_
                  obtain ⟨z10, e10, hf⟩ := ob hf
                  refine r_gR C hw e10 ck10 rfl (by decide) w985 dX10_message_149 ?_
                  cases z10 with
                  | none =>
                    have hf := on_n hf
                    cases hf
                  | some a11 =>
                    have hf := on_s hf
                    refine W.eq (g2 := F0 m 152 ls [.ref a11]) rfl ?_
                    refine lv_iload_n hx hb dX10_message_152 rfl (lv_at hl 1 rfl) ?_
                    obtain ⟨z12, e12, hf⟩ := ob hf
                    refine r_iald C hw e12 dX10_message_153 ?_
                    obtain ⟨rfl, rfl⟩ := sp hf
                    exact r_iret C hw rfl rfl (by omega) (by omega) dX10_message_154
                · have hf := ip hf c9
                  refine lv_aload_n hx hb dX10_message_139 rfl (lv_at hl 0 rfl) ?_
                  obtain ⟨z13, e13, hf⟩ := ob hf
                  refine r_gR C hw e13 ck10 rfl (by decide) w984 dX10_message_140 ?_
                  cases z13 with
                  | none =>
                    have hf := on_n hf
                    cases hf
                  | some a14 =>
                    have hf := on_s hf
                    refine W.eq (g2 := F0 m 143 ls [.ref a14]) rfl ?_
                    refine lv_iload_n hx hb dX10_message_143 rfl (lv_at hl 1 rfl) ?_
                    obtain ⟨z15, e15, hf⟩ := ob hf
                    refine r_iald C hw e15 dX10_message_144 ?_
                    refine lv_goto (tgt := 154) hx hb dX10_message_145 (by decide) ?_
                    obtain ⟨rfl, rfl⟩ := sp hf
                    exact r_iret C hw rfl rfl (by omega) (by omega) dX10_message_154
              · have hf := ip hf c8
                refine lv_aload_n hx hb dX10_message_124 rfl (lv_at hl 0 rfl) ?_
                obtain ⟨z16, e16, hf⟩ := ob hf
                refine r_gR C hw e16 ck10 rfl (by decide) w983 dX10_message_125 ?_
                cases z16 with
                | none =>
                  have hf := on_n hf
                  cases hf
                | some a17 =>
                  have hf := on_s hf
                  refine W.eq (g2 := F0 m 128 ls [.ref a17]) rfl ?_
                  refine lv_iload_n hx hb dX10_message_128 rfl (lv_at hl 1 rfl) ?_
                  obtain ⟨z18, e18, hf⟩ := ob hf
                  refine r_iald C hw e18 dX10_message_129 ?_
                  refine lv_goto (tgt := 154) hx hb dX10_message_130 (by decide) ?_
                  obtain ⟨rfl, rfl⟩ := sp hf
                  exact r_iret C hw rfl rfl (by omega) (by omega) dX10_message_154
            · have hf := ip hf c7
              refine lv_aload_n hx hb dX10_message_110 rfl (lv_at hl 0 rfl) ?_
              obtain ⟨z19, e19, hf⟩ := ob hf
              refine r_gR C hw e19 ck10 rfl (by decide) w982 dX10_message_111 ?_
              cases z19 with
              | none =>
                have hf := on_n hf
                cases hf
              | some a20 =>
                have hf := on_s hf
                refine W.eq (g2 := F0 m 114 ls [.ref a20]) rfl ?_
                refine lv_iload_n hx hb dX10_message_114 rfl (lv_at hl 1 rfl) ?_
                obtain ⟨z21, e21, hf⟩ := ob hf
                refine r_iald C hw e21 dX10_message_115 ?_
                refine lv_goto (tgt := 154) hx hb dX10_message_116 (by decide) ?_
                obtain ⟨rfl, rfl⟩ := sp hf
                exact r_iret C hw rfl rfl (by omega) (by omega) dX10_message_154
          · have hf := ip hf c6
            refine lv_aload_n hx hb dX10_message_96 rfl (lv_at hl 0 rfl) ?_
            obtain ⟨z22, e22, hf⟩ := ob hf
            refine r_gR C hw e22 ck10 rfl (by decide) w981 dX10_message_97 ?_
            cases z22 with
            | none =>
              have hf := on_n hf
              cases hf
            | some a23 =>
              have hf := on_s hf
              refine W.eq (g2 := F0 m 100 ls [.ref a23]) rfl ?_
              refine lv_iload_n hx hb dX10_message_100 rfl (lv_at hl 1 rfl) ?_
              obtain ⟨z24, e24, hf⟩ := ob hf
              refine r_iald C hw e24 dX10_message_101 ?_
              refine lv_goto (tgt := 154) hx hb dX10_message_102 (by decide) ?_
              obtain ⟨rfl, rfl⟩ := sp hf
              exact r_iret C hw rfl rfl (by omega) (by omega) dX10_message_154
        · have hf := ip hf c5
          refine lv_aload_n hx hb dX10_message_82 rfl (lv_at hl 0 rfl) ?_
          obtain ⟨z25, e25, hf⟩ := ob hf
          refine r_gR C hw e25 ck10 rfl (by decide) w980 dX10_message_83 ?_
          cases z25 with
          | none =>
            have hf := on_n hf
            cases hf
          | some a26 =>
            have hf := on_s hf
            refine W.eq (g2 := F0 m 86 ls [.ref a26]) rfl ?_
            refine lv_iload_n hx hb dX10_message_86 rfl (lv_at hl 1 rfl) ?_
            obtain ⟨z27, e27, hf⟩ := ob hf
            refine r_iald C hw e27 dX10_message_87 ?_
            refine lv_goto (tgt := 154) hx hb dX10_message_88 (by decide) ?_
            obtain ⟨rfl, rfl⟩ := sp hf
            exact r_iret C hw rfl rfl (by omega) (by omega) dX10_message_154
      · have hf := ip hf c4
        refine lv_aload_n hx hb dX10_message_68 rfl (lv_at hl 0 rfl) ?_
        obtain ⟨z28, e28, hf⟩ := ob hf
        refine r_gR C hw e28 ck10 rfl (by decide) w979 dX10_message_69 ?_
        cases z28 with
        | none =>
          have hf := on_n hf
          cases hf
        | some a29 =>
          have hf := on_s hf
          refine W.eq (g2 := F0 m 72 ls [.ref a29]) rfl ?_
          refine lv_iload_n hx hb dX10_message_72 rfl (lv_at hl 1 rfl) ?_
          obtain ⟨z30, e30, hf⟩ := ob hf
          refine r_iald C hw e30 dX10_message_73 ?_
          refine lv_goto (tgt := 154) hx hb dX10_message_74 (by decide) ?_
          obtain ⟨rfl, rfl⟩ := sp hf
          exact r_iret C hw rfl rfl (by omega) (by omega) dX10_message_154
    · have hf := ip hf c3
      refine lv_aload_n hx hb dX10_message_54 rfl (lv_at hl 0 rfl) ?_
      obtain ⟨z31, e31, hf⟩ := ob hf
      refine r_gR C hw e31 ck10 rfl (by decide) w978 dX10_message_55 ?_
      cases z31 with
      | none =>
        have hf := on_n hf
        cases hf
      | some a32 =>
        have hf := on_s hf
        refine W.eq (g2 := F0 m 58 ls [.ref a32]) rfl ?_
        refine lv_iload_n hx hb dX10_message_58 rfl (lv_at hl 1 rfl) ?_
        obtain ⟨z33, e33, hf⟩ := ob hf
        refine r_iald C hw e33 dX10_message_59 ?_
        refine lv_goto (tgt := 154) hx hb dX10_message_60 (by decide) ?_
        obtain ⟨rfl, rfl⟩ := sp hf
        exact r_iret C hw rfl rfl (by omega) (by omega) dX10_message_154
  · have hf := ie hf c2
    refine lv_iconst (v := (0 : Int32)) hx hb dX10_message_48 (by decide) ?_
    obtain ⟨rfl, rfl⟩ := sp hf
    exact r_iret C hw rfl rfl (by omega) (by omega) dX10_message_49
set_option maxRecDepth 100000 in
set_option maxHeartbeats 4000000 in
theorem bX10_message_36 {D : va_G} {cy : Nat → ClassId} {s0 : Nat} {p : Program} {l : Launch} {e : Env} {s : State} {m : MethodId} {args : Array Value} {below : List Frame} {meth : Method} {c : Code} (C : CX D cy s0 p s m args meth c cX10_message 3 RX10 (some .int)) (hn : meth.name = "message") : ∀ (x0 : Nat) (x1 : Int32) (x2 : Int32) (y0 : Nat) (h : Hp) (r : Int32 × Hp), fX10_message_36 x0 x1 x2 y0 h = some r → pX10_message_36 D cy s0 p l e s m args below meth c r x0 x1 x2 y0 h := by
  intro x0 x1 x2 y0 h ⟨rv, rh⟩ hf H locs ls cells slots hc hs hw hl
  unfold fX10_message_36 at hf
  have hx := C.1
  have hb := C.2.1
  refine lv_iconst (v := (1 : Int32)) hx hb dX10_message_36 (by decide) ?_
  refine lv_goto (tgt := 41) hx hb dX10_message_37 (by decide) ?_
  exact bX10_message_41 C hn _ _ _ _ _ _ _ hf _ _ _ _ _ (by omega) (by omega) hw (lv_sub hl [0, 1, 2] rfl)
set_option maxRecDepth 100000 in
set_option maxHeartbeats 4000000 in
theorem bX10_message_18 {D : va_G} {cy : Nat → ClassId} {s0 : Nat} {p : Program} {l : Launch} {e : Env} {s : State} {m : MethodId} {args : Array Value} {below : List Frame} {meth : Method} {c : Code} (C : CX D cy s0 p s m args meth c cX10_message 3 RX10 (some .int)) (hn : meth.name = "message") : ∀ (x0 : Nat) (x1 : Int32) (x2 : Int32) (y0 : Int32) (y1 : Nat) (h : Hp) (r : Int32 × Hp), fX10_message_18 x0 x1 x2 y0 y1 h = some r → pX10_message_18 D cy s0 p l e s m args below meth c r x0 x1 x2 y0 y1 h := by
  intro x0 x1 x2 y0 y1 h ⟨rv, rh⟩ hf H locs ls cells slots hc hs hw hl
  unfold fX10_message_18 at hf
  have hx := C.1
  have hb := C.2.1
  refine lv_iconst (v := (1 : Int32)) hx hb dX10_message_18 (by decide) ?_
  obtain ⟨kb1, hf⟩ := ig hf
  obtain ⟨z1, h1, e1, hf⟩ := ob2 hf
  refine r_callV C hw (mX10_bad e1) kXX10_bad ck10 rfl kb1 w1132 w1134 v35 ⟨Nat.le_of_ble_eq_true rfl, Nat.le_of_ble_eq_true rfl⟩ rfl hl.1 (rest := []) rfl (Nat.le_of_ble_eq_true rfl) dX10_message_19 (mc := 0) (ms := 0) rfl rfl ⟨by show _ + 0 ≤ 0; omega, by show _ + 0 ≤ 0; omega⟩ (fun H locs hw => ?_)
  refine W.eq (g2 := F0 m 22 ls [.int z1]) rfl ?_
  refine lv_if_ne (tgt := 48) hx hb dX10_message_22 (by decide) (fun c2 => ?_) (fun c2 => ?_)
  · have hf := ie hf c2
    refine lv_iconst (v := (0 : Int32)) hx hb dX10_message_48 (by decide) ?_
    obtain ⟨rfl, rfl⟩ := sp hf
    exact r_iret C hw rfl rfl (by omega) (by omega) dX10_message_49
  · have hf := ip hf c2
    refine lv_aload_n hx hb dX10_message_25 rfl (lv_at hl 0 rfl) ?_
    refine lv_iload_n hx hb dX10_message_26 rfl (lv_at hl 2 rfl) ?_
    refine lv_if_lt (tgt := 36) hx hb dX10_message_27 (by decide) (fun c3 => ?_) (fun c3 => ?_)
    · have hf := ip hf c3
      exact bX10_message_36 C hn _ _ _ _ _ _ hf _ _ _ _ _ (by omega) (by omega) hw (lv_sub hl [0, 1, 2] rfl)
    · have hf := ie hf c3
      refine lv_iload_n hx hb dX10_message_30 rfl (lv_at hl 2 rfl) ?_
      refine lv_bipush (v := (7 : Int32)) hx hb dX10_message_31 (by decide) ?_
      refine lv_icmp_le (tgt := 40) hx hb dX10_message_33 (by decide) (fun c4 => ?_) (fun c4 => ?_)
      · have hf := ip hf c4
        refine lv_iconst (v := (0 : Int32)) hx hb dX10_message_40 (by decide) ?_
        exact bX10_message_41 C hn _ _ _ _ _ _ _ hf _ _ _ _ _ (by omega) (by omega) hw (lv_sub hl [0, 1, 2] rfl)
      · have hf := ie hf c4
        exact bX10_message_36 C hn _ _ _ _ _ _ hf _ _ _ _ _ (by omega) (by omega) hw (lv_sub hl [0, 1, 2] rfl)
set_option maxRecDepth 100000 in
set_option maxHeartbeats 4000000 in
theorem bX10_message_13 {D : va_G} {cy : Nat → ClassId} {s0 : Nat} {p : Program} {l : Launch} {e : Env} {s : State} {m : MethodId} {args : Array Value} {below : List Frame} {meth : Method} {c : Code} (C : CX D cy s0 p s m args meth c cX10_message 3 RX10 (some .int)) (hn : meth.name = "message") : ∀ (x0 : Nat) (x1 : Int32) (x2 : Int32) (y0 : Nat) (h : Hp) (r : Int32 × Hp), fX10_message_13 x0 x1 x2 y0 h = some r → pX10_message_13 D cy s0 p l e s m args below meth c r x0 x1 x2 y0 h := by
  intro x0 x1 x2 y0 h ⟨rv, rh⟩ hf H locs ls cells slots hc hs hw hl
  unfold fX10_message_13 at hf
  have hx := C.1
  have hb := C.2.1
  refine lv_iconst (v := (1 : Int32)) hx hb dX10_message_13 (by decide) ?_
  refine lv_goto (tgt := 18) hx hb dX10_message_14 (by decide) ?_
  exact bX10_message_18 C hn _ _ _ _ _ _ _ hf _ _ _ _ _ (by omega) (by omega) hw (lv_sub hl [0, 1, 2] rfl)
set_option maxRecDepth 100000 in
set_option maxHeartbeats 4000000 in
theorem bX10_message {D : va_G} {cy : Nat → ClassId} {s0 : Nat} {p : Program} {l : Launch} {e : Env} {s : State} {m : MethodId} {args : Array Value} {below : List Frame} {meth : Method} {c : Code} (C : CX D cy s0 p s m args meth c cX10_message 3 RX10 (some .int)) (hn : meth.name = "message") : ∀ (x0 : Nat) (x1 : Int32) (x2 : Int32) (h : Hp) (r : Int32 × Hp), fX10_message x0 x1 x2 h = some r → pX10_message D cy s0 p l e s m args below meth c r x0 x1 x2 h := by
  intro x0 x1 x2 h ⟨rv, rh⟩ hf H locs ls cells slots hc hs hw hl
  unfold fX10_message at hf
  have hx := C.1
  have hb := C.2.1
  refine lv_aload_n hx hb dX10_message_0 rfl (lv_at hl 0 rfl) ?_
  refine lv_iload_n hx hb dX10_message_1 rfl (lv_at hl 1 rfl) ?_
  refine lv_if_lt (tgt := 13) hx hb dX10_message_2 (by decide) (fun c1 => ?_) (fun c1 => ?_)
  · have hf := ip hf c1
    exact bX10_message_13 C hn _ _ _ _ _ _ hf _ _ _ _ _ (by omega) (by omega) hw (lv_sub hl [0, 1, 2] rfl)
  · have hf := ie hf c1
    refine lv_iload_n hx hb dX10_message_5 rfl (lv_at hl 1 rfl) ?_
    refine lv_aload_n hx hb dX10_message_6 rfl (lv_at hl 0 rfl) ?_
    obtain ⟨z2, e2, hf⟩ := ob hf
    refine r_gI C hw e2 ck10 rfl (by decide) w987 dX10_message_7 ?_
    refine lv_icmp_lt (tgt := 17) hx hb dX10_message_10 (by decide) (fun c3 => ?_) (fun c3 => ?_)
    · have hf := ip hf c3
      refine lv_iconst (v := (0 : Int32)) hx hb dX10_message_17 (by decide) ?_
      exact bX10_message_18 C hn _ _ _ _ _ _ _ hf _ _ _ _ _ (by omega) (by omega) hw (lv_sub hl [0, 1, 2] rfl)
    · have hf := ie hf c3
      exact bX10_message_13 C hn _ _ _ _ _ _ hf _ _ _ _ _ (by omega) (by omega) hw (lv_sub hl [0, 1, 2] rfl)
theorem kXX10_message : MK yX10_message cX10_message 3 (some .int) 2 := ⟨w1299, w8, by decide +kernel⟩
theorem mX10_message {D : va_G} {cy : Nat → ClassId} {s0 : Nat} {l : Launch} {x0 : Nat} {x1 : Int32} {x2 : Int32} {h : Hp} {v : Int32} {h1 : Hp} (hf : fX10_message x0 x1 x2 h = some (v, h1)) : MT D cy s0 l yX10_message cX10_message 3 (some .int) rX10_message [.ref x0, .int x1, .int x2] h (some (.int v)) h1 := by
  refine MT.of (by decide +kernel) (Nat.le_of_ble_eq_true rfl) ?_
  intro p e s m below meth c H locs ls C hn hw hl
  exact bX10_message C hn _ _ _ _ _ hf _ _ _ _ _ (Nat.le_of_ble_eq_true rfl) (Nat.le_of_ble_eq_true rfl) hw hl
abbrev rX10_messages : Room := { frames := 0, cells := 0, slots := 0, locals := 0 }
abbrev pX10_messages (D : va_G) (cy : Nat → ClassId) (s0 : Nat) (p : Program) (l : Launch) (e : Env) (s : State) (m : MethodId) (args : Array Value) (below : List Frame) (meth : Method) (c : Code) (r : Int32 × Hp) (x0 : Nat) (h : Hp) : Prop := ∀ (H : Heap) (locs : List Loc) (ls : Array Slot) (cells slots : Nat), cells + (0) ≤ 0 → slots + (0) ≤ 0 → WS D cy s0 s h H locs → lv_has ls 1 [(0, .ref x0)] → W p l e rX10_messages s m args below meth c H locs cells slots (MQ below (QQ D cy s0 (some (.int r.1)) r.2) args s 0 0 (fun q => s0 ≤ q)) (F0 m 0 ls [])
set_option maxRecDepth 100000 in
set_option maxHeartbeats 4000000 in
theorem bX10_messages {D : va_G} {cy : Nat → ClassId} {s0 : Nat} {p : Program} {l : Launch} {e : Env} {s : State} {m : MethodId} {args : Array Value} {below : List Frame} {meth : Method} {c : Code} (C : CX D cy s0 p s m args meth c cX10_messages 1 RX10 (some .int)) (hn : meth.name = "messages") : ∀ (x0 : Nat) (h : Hp) (r : Int32 × Hp), fX10_messages x0 h = some r → pX10_messages D cy s0 p l e s m args below meth c r x0 h := by
  intro x0 h ⟨rv, rh⟩ hf H locs ls cells slots hc hs hw hl
  unfold fX10_messages at hf
  have hx := C.1
  have hb := C.2.1
  refine lv_aload_n hx hb dX10_messages_0 rfl (lv_at hl 0 rfl) ?_
  refine lv_iconst (v := (0 : Int32)) hx hb dX10_messages_1 (by decide) ?_
  obtain ⟨h1, e1, hf⟩ := ob hf
  refine r_pI C hw e1 ck10 rfl (by decide) rfl w963 (Or.inl rfl) dX10_messages_2 (fun H locs hw => ?_)
  refine lv_aload_n hx hb dX10_messages_5 rfl (lv_at hl 0 rfl) ?_
  obtain ⟨z2, e2, hf⟩ := ob hf
  refine r_gI C hw e2 ck10 rfl (by decide) w987 dX10_messages_6 ?_
  obtain ⟨rfl, rfl⟩ := sp hf
  exact r_iret C hw rfl rfl (by omega) (by omega) dX10_messages_9
theorem kXX10_messages : MK yX10_messages cX10_messages 1 (some .int) 0 := ⟨w1317, w8, by decide +kernel⟩
theorem mX10_messages {D : va_G} {cy : Nat → ClassId} {s0 : Nat} {l : Launch} {x0 : Nat} {h : Hp} {v : Int32} {h1 : Hp} (hf : fX10_messages x0 h = some (v, h1)) : MT D cy s0 l yX10_messages cX10_messages 1 (some .int) rX10_messages [.ref x0] h (some (.int v)) h1 := by
  refine MT.of (by decide +kernel) (Nat.le_of_ble_eq_true rfl) ?_
  intro p e s m below meth c H locs ls C hn hw hl
  exact bX10_messages C hn _ _ _ hf _ _ _ _ _ (Nat.le_of_ble_eq_true rfl) (Nat.le_of_ble_eq_true rfl) hw hl
abbrev rX10_more : Room := { frames := 0, cells := 0, slots := 0, locals := 0 }
abbrev pX10_more (D : va_G) (cy : Nat → ClassId) (s0 : Nat) (p : Program) (l : Launch) (e : Env) (s : State) (m : MethodId) (args : Array Value) (below : List Frame) (meth : Method) (c : Code) (r : Unit × Hp) (x0 : Nat) (x1 : Int32) (x2 : Int32) (x3 : Int32) (x4 : Int32) (h : Hp) : Prop := ∀ (H : Heap) (locs : List Loc) (ls : Array Slot) (cells slots : Nat), cells + (0) ≤ 0 → slots + (0) ≤ 0 → WS D cy s0 s h H locs → lv_has ls 5 [(0, .ref x0), (1, .int x1), (2, .int x2), (3, .int x3), (4, .int x4)] → W p l e rX10_more s m args below meth c H locs cells slots (MQ below (QQ D cy s0 none r.2) args s 0 0 (fun q => s0 ≤ q)) (F0 m 0 ls [])
set_option maxRecDepth 100000 in
set_option maxHeartbeats 4000000 in
theorem bX10_more {D : va_G} {cy : Nat → ClassId} {s0 : Nat} {p : Program} {l : Launch} {e : Env} {s : State} {m : MethodId} {args : Array Value} {below : List Frame} {meth : Method} {c : Code} (C : CX D cy s0 p s m args meth c cX10_more 5 RX10 none) (hn : meth.name = "more") : ∀ (x0 : Nat) (x1 : Int32) (x2 : Int32) (x3 : Int32) (x4 : Int32) (h : Hp) (r : Unit × Hp), fX10_more x0 x1 x2 x3 x4 h = some r → pX10_more D cy s0 p l e s m args below meth c r x0 x1 x2 x3 x4 h := by
  intro x0 x1 x2 x3 x4 h ⟨rv, rh⟩ hf H locs ls cells slots hc hs hw hl
  unfold fX10_more at hf
  have hx := C.1
  have hb := C.2.1
  refine lv_aload_n hx hb dX10_more_0 rfl (lv_at hl 0 rfl) ?_
  refine lv_iconst (v := (0 : Int32)) hx hb dX10_more_1 (by decide) ?_
  obtain ⟨h1, e1, hf⟩ := ob hf
  refine r_pI C hw e1 ck10 rfl (by decide) rfl w963 (Or.inl rfl) dX10_more_2 (fun H locs hw => ?_)
  refine lv_aload_n hx hb dX10_more_5 rfl (lv_at hl 0 rfl) ?_
  refine lv_iload_n hx hb dX10_more_6 rfl (lv_at hl 1 rfl) ?_
  obtain ⟨h2, e2, hf⟩ := ob hf
  refine r_pI C hw e2 ck10 rfl (by decide) rfl w991 (Or.inl rfl) dX10_more_7 (fun H locs hw => ?_)
  refine lv_aload_n hx hb dX10_more_10 rfl (lv_at hl 0 rfl) ?_
  refine lv_iload_n hx hb dX10_more_11 rfl (lv_at hl 2 rfl) ?_
  obtain ⟨h3, e3, hf⟩ := ob hf
  refine r_pI C hw e3 ck10 rfl (by decide) rfl w992 (Or.inl rfl) dX10_more_12 (fun H locs hw => ?_)
  refine lv_aload_n hx hb dX10_more_15 rfl (lv_at hl 0 rfl) ?_
  refine lv_iload_n hx hb dX10_more_16 rfl (lv_at hl 3 rfl) ?_
  obtain ⟨h4, e4, hf⟩ := ob hf
  refine r_pI C hw e4 ck10 rfl (by decide) rfl w993 (Or.inl rfl) dX10_more_17 (fun H locs hw => ?_)
  refine lv_aload_n hx hb dX10_more_20 rfl (lv_at hl 0 rfl) ?_
  refine lv_iload hx hb dX10_more_21 (lv_at hl 4 rfl) ?_
  obtain ⟨h5, e5, hf⟩ := ob hf
  refine r_pI C hw e5 ck10 rfl (by decide) rfl w994 (Or.inl rfl) dX10_more_23 (fun H locs hw => ?_)
  obtain ⟨rfl, rfl⟩ := sp hf
  exact r_vret C hw rfl (by omega) (by omega) dX10_more_26
theorem kXX10_more : MK yX10_more cX10_more 5 none 4 := ⟨w1209, w8, by decide +kernel⟩
theorem mX10_more {D : va_G} {cy : Nat → ClassId} {s0 : Nat} {l : Launch} {x0 : Nat} {x1 : Int32} {x2 : Int32} {x3 : Int32} {x4 : Int32} {h : Hp} {v : Unit} {h1 : Hp} (hf : fX10_more x0 x1 x2 x3 x4 h = some (v, h1)) : MT D cy s0 l yX10_more cX10_more 5 none rX10_more [.ref x0, .int x1, .int x2, .int x3, .int x4] h none h1 := by
  refine MT.of (by decide +kernel) (Nat.le_of_ble_eq_true rfl) ?_
  intro p e s m below meth c H locs ls C hn hw hl
  exact bX10_more C hn _ _ _ _ _ _ _ hf _ _ _ _ _ (Nat.le_of_ble_eq_true rfl) (Nat.le_of_ble_eq_true rfl) hw hl
abbrev rX10_node : Room := { frames := 5, cells := 0, slots := 0, locals := 122 }
abbrev pX10_node_307 (D : va_G) (cy : Nat → ClassId) (s0 : Nat) (p : Program) (l : Launch) (e : Env) (s : State) (m : MethodId) (args : Array Value) (below : List Frame) (meth : Method) (c : Code) (r : Int32 × Hp) (x0 : Nat) (x3 : Int32) (x4 : Int32) (h : Hp) : Prop := ∀ (H : Heap) (locs : List Loc) (ls : Array Slot) (cells slots : Nat), cells + (0) ≤ 0 → slots + (0) ≤ 0 → WS D cy s0 s h H locs → lv_has ls 5 [(0, .ref x0), (3, .int x3), (4, .int x4)] → W p l e rX10_node s m args below meth c H locs cells slots (MQ below (QQ D cy s0 (some (.int r.1)) r.2) args s 0 0 (fun q => s0 ≤ q)) (F0 m 307 ls [])
abbrev pX10_node_281 (D : va_G) (cy : Nat → ClassId) (s0 : Nat) (p : Program) (l : Launch) (e : Env) (s : State) (m : MethodId) (args : Array Value) (below : List Frame) (meth : Method) (c : Code) (r : Int32 × Hp) (x0 : Nat) (x3 : Int32) (x4 : Int32) (h : Hp) : Prop := ∀ (H : Heap) (locs : List Loc) (ls : Array Slot) (cells slots : Nat), cells + (0) ≤ 0 → slots + (0) ≤ 0 → WS D cy s0 s h H locs → lv_has ls 5 [(0, .ref x0), (3, .int x3), (4, .int x4)] → W p l e rX10_node s m args below meth c H locs cells slots (MQ below (QQ D cy s0 (some (.int r.1)) r.2) args s 0 0 (fun q => s0 ≤ q)) (F0 m 281 ls [])
abbrev pX10_node_270 (D : va_G) (cy : Nat → ClassId) (s0 : Nat) (p : Program) (l : Launch) (e : Env) (s : State) (m : MethodId) (args : Array Value) (below : List Frame) (meth : Method) (c : Code) (r : Int32 × Hp) (x0 : Nat) (x3 : Int32) (x4 : Int32) (h : Hp) : Prop := ∀ (H : Heap) (locs : List Loc) (ls : Array Slot) (cells slots : Nat), cells + (0) ≤ 0 → slots + (0) ≤ 0 → WS D cy s0 s h H locs → lv_has ls 5 [(0, .ref x0), (3, .int x3), (4, .int x4)] → W p l e rX10_node s m args below meth c H locs cells slots (MQ below (QQ D cy s0 (some (.int r.1)) r.2) args s 0 0 (fun q => s0 ≤ q)) (F0 m 270 ls [])
abbrev pX10_node_250 (D : va_G) (cy : Nat → ClassId) (s0 : Nat) (p : Program) (l : Launch) (e : Env) (s : State) (m : MethodId) (args : Array Value) (below : List Frame) (meth : Method) (c : Code) (r : Int32 × Hp) (x0 : Nat) (x3 : Int32) (x4 : Int32) (h : Hp) : Prop := ∀ (H : Heap) (locs : List Loc) (ls : Array Slot) (cells slots : Nat), cells + (0) ≤ 0 → slots + (0) ≤ 0 → WS D cy s0 s h H locs → lv_has ls 5 [(0, .ref x0), (3, .int x3), (4, .int x4)] → W p l e rX10_node s m args below meth c H locs cells slots (MQ below (QQ D cy s0 (some (.int r.1)) r.2) args s 0 0 (fun q => s0 ≤ q)) (F0 m 250 ls [])
abbrev pX10_node_36 (D : va_G) (cy : Nat → ClassId) (s0 : Nat) (p : Program) (l : Launch) (e : Env) (s : State) (m : MethodId) (args : Array Value) (below : List Frame) (meth : Method) (c : Code) (r : Int32 × Hp) (x0 : Nat) (x1 : Int32) (x2 : Int32) (y0 : Int32) (y1 : Nat) (h : Hp) : Prop := ∀ (H : Heap) (locs : List Loc) (ls : Array Slot) (cells slots : Nat), cells + (0) ≤ 0 → slots + (0) ≤ 0 → WS D cy s0 s h H locs → lv_has ls 5 [(0, .ref x0), (1, .int x1), (2, .int x2)] → W p l e rX10_node s m args below meth c H locs cells slots (MQ below (QQ D cy s0 (some (.int r.1)) r.2) args s 0 0 (fun q => s0 ≤ q)) (F0 m 36 ls [.int y0, .ref y1])
abbrev pX10_node_31 (D : va_G) (cy : Nat → ClassId) (s0 : Nat) (p : Program) (l : Launch) (e : Env) (s : State) (m : MethodId) (args : Array Value) (below : List Frame) (meth : Method) (c : Code) (r : Int32 × Hp) (x0 : Nat) (x1 : Int32) (x2 : Int32) (y0 : Nat) (h : Hp) : Prop := ∀ (H : Heap) (locs : List Loc) (ls : Array Slot) (cells slots : Nat), cells + (0) ≤ 0 → slots + (0) ≤ 0 → WS D cy s0 s h H locs → lv_has ls 5 [(0, .ref x0), (1, .int x1), (2, .int x2)] → W p l e rX10_node s m args below meth c H locs cells slots (MQ below (QQ D cy s0 (some (.int r.1)) r.2) args s 0 0 (fun q => s0 ≤ q)) (F0 m 31 ls [.ref y0])
abbrev pX10_node_13 (D : va_G) (cy : Nat → ClassId) (s0 : Nat) (p : Program) (l : Launch) (e : Env) (s : State) (m : MethodId) (args : Array Value) (below : List Frame) (meth : Method) (c : Code) (r : Int32 × Hp) (x0 : Nat) (x1 : Int32) (x2 : Int32) (y0 : Int32) (y1 : Nat) (h : Hp) : Prop := ∀ (H : Heap) (locs : List Loc) (ls : Array Slot) (cells slots : Nat), cells + (0) ≤ 0 → slots + (0) ≤ 0 → WS D cy s0 s h H locs → lv_has ls 5 [(0, .ref x0), (1, .int x1), (2, .int x2)] → W p l e rX10_node s m args below meth c H locs cells slots (MQ below (QQ D cy s0 (some (.int r.1)) r.2) args s 0 0 (fun q => s0 ≤ q)) (F0 m 13 ls [.int y0, .ref y1])
abbrev pX10_node (D : va_G) (cy : Nat → ClassId) (s0 : Nat) (p : Program) (l : Launch) (e : Env) (s : State) (m : MethodId) (args : Array Value) (below : List Frame) (meth : Method) (c : Code) (r : Int32 × Hp) (x0 : Nat) (x1 : Int32) (x2 : Int32) (h : Hp) : Prop := ∀ (H : Heap) (locs : List Loc) (ls : Array Slot) (cells slots : Nat), cells + (0) ≤ 0 → slots + (0) ≤ 0 → WS D cy s0 s h H locs → lv_has ls 5 [(0, .ref x0), (1, .int x1), (2, .int x2)] → W p l e rX10_node s m args below meth c H locs cells slots (MQ below (QQ D cy s0 (some (.int r.1)) r.2) args s 0 0 (fun q => s0 ≤ q)) (F0 m 0 ls [])
set_option maxRecDepth 100000 in
set_option maxHeartbeats 4000000 in
theorem bX10_node_307 {D : va_G} {cy : Nat → ClassId} {s0 : Nat} {p : Program} {l : Launch} {e : Env} {s : State} {m : MethodId} {args : Array Value} {below : List Frame} {meth : Method} {c : Code} (C : CX D cy s0 p s m args meth c cX10_node 5 RX10 (some .int)) (hn : meth.name = "node") {k281 : Nat → Int32 → Int32 → Hp → Option (Int32 × Hp)} (hk281 : ∀ (x0 : Nat) (x3 : Int32) (x4 : Int32) (h : Hp) (r : Int32 × Hp), k281 x0 x3 x4 h = some r → pX10_node_281 D cy s0 p l e s m args below meth c r x0 x3 x4 h) : ∀ (x0 : Nat) (x3 : Int32) (x4 : Int32) (h : Hp) (r : Int32 × Hp), fX10_node_307 k281 x0 x3 x4 h = some r → pX10_node_307 D cy s0 p l e s m args below meth c r x0 x3 x4 h := by
  intro x0 x3 x4 h ⟨rv, rh⟩ hf H locs ls cells slots hc hs hw hl
  unfold fX10_node_307 at hf
  have hx := C.1
  have hb := C.2.1
  refine lv_iinc (v := (x4 + (1 : Int32))) (lv' := [(4, .int (x4 + (1 : Int32))), (0, .ref x0), (3, .int x3)]) hx hb dX10_node_307 hl (k := 2) rfl rfl (by decide) rfl (fun ls hl => ?_)
  refine lv_goto (tgt := 281) hx hb dX10_node_310 (by decide) ?_
  exact hk281 _ _ _ _ _ hf _ _ _ _ _ (by omega) (by omega) hw (lv_sub hl [1, 2, 0] rfl)
set_option maxRecDepth 100000 in
set_option maxHeartbeats 4000000 in
theorem bX10_node_281_body {D : va_G} {cy : Nat → ClassId} {s0 : Nat} {p : Program} {l : Launch} {e : Env} {s : State} {m : MethodId} {args : Array Value} {below : List Frame} {meth : Method} {c : Code} (C : CX D cy s0 p s m args meth c cX10_node 5 RX10 (some .int)) (hn : meth.name = "node") {k281 : Nat → Int32 → Int32 → Hp → Option (Int32 × Hp)} (hk281 : ∀ (x0 : Nat) (x3 : Int32) (x4 : Int32) (h : Hp) (r : Int32 × Hp), k281 x0 x3 x4 h = some r → pX10_node_281 D cy s0 p l e s m args below meth c r x0 x3 x4 h) : ∀ (x0 : Nat) (x3 : Int32) (x4 : Int32) (h : Hp) (r : Int32 × Hp), fX10_node_281_body k281 x0 x3 x4 h = some r → pX10_node_281 D cy s0 p l e s m args below meth c r x0 x3 x4 h := by
  intro x0 x3 x4 h ⟨rv, rh⟩ hf H locs ls cells slots hc hs hw hl
  unfold fX10_node_281_body at hf
  have hx := C.1
  have hb := C.2.1
  refine lv_iload hx hb dX10_node_281 (lv_at hl 2 rfl) ?_
  refine lv_bipush (v := (8 : Int32)) hx hb dX10_node_283 (by decide) ?_
  refine lv_icmp_gt (tgt := 313) hx hb dX10_node_285 (by decide) (fun c1 => ?_) (fun c1 => ?_)
  · have hf := ip hf c1
    refine lv_iload_n hx hb dX10_node_313 rfl (lv_at hl 1 rfl) ?_
    obtain ⟨rfl, rfl⟩ := sp hf
    exact r_iret C hw rfl rfl (by omega) (by omega) dX10_node_314
  · have hf := ie hf c1
    refine lv_aload_n hx hb dX10_node_288 rfl (lv_at hl 0 rfl) ?_
    obtain ⟨z2, e2, hf⟩ := ob hf
    refine r_gR C hw e2 ck10 rfl (by decide) w1001 dX10_node_289 ?_
    cases z2 with
    | none =>
      have hf := on_n hf
      cases hf
    | some a3 =>
      have hf := on_s hf
      refine W.eq (g2 := F0 m 292 ls [.ref a3]) rfl ?_
      refine lv_iload hx hb dX10_node_292 (lv_at hl 2 rfl) ?_
      obtain ⟨z4, e4, hf⟩ := ob hf
      refine r_zald C hw e4 dX10_node_294 ?_
      refine lv_if_eq (tgt := 307) hx hb dX10_node_295 (by decide) (fun c5 => ?_) (fun c5 => ?_)
      · have hf := ip hf c5
        exact bX10_node_307 C hn hk281 _ _ _ _ _ hf _ _ _ _ _ (by omega) (by omega) hw (lv_sub hl [0, 1, 2] rfl)
      · have hf := ie hf c5
        refine lv_iload_n hx hb dX10_node_298 rfl (lv_at hl 1 rfl) ?_
        refine lv_iconst (v := (1 : Int32)) hx hb dX10_node_299 (by decide) ?_
        refine lv_iload hx hb dX10_node_300 (lv_at hl 2 rfl) ?_
        refine lv_iconst (v := (1 : Int32)) hx hb dX10_node_302 (by decide) ?_
        refine lv_isub hx hb dX10_node_303 ?_
        refine lv_ishl hx hb dX10_node_304 ?_
        refine lv_ior hx hb dX10_node_305 ?_
        refine lv_istore_n (lv' := [(3, .int (x3 ||| ((1 : Int32) <<< ((x4 - (1 : Int32)) &&& 31)))), (0, .ref x0), (4, .int x4)]) hx hb dX10_node_306 rfl hl (by decide) rfl (fun ls hl => ?_)
        exact bX10_node_307 C hn hk281 _ _ _ _ _ hf _ _ _ _ _ (by omega) (by omega) hw (lv_sub hl [1, 0, 2] rfl)
set_option maxRecDepth 100000 in
set_option maxHeartbeats 4000000 in
theorem bX10_node_281 {D : va_G} {cy : Nat → ClassId} {s0 : Nat} {p : Program} {l : Launch} {e : Env} {s : State} {m : MethodId} {args : Array Value} {below : List Frame} {meth : Method} {c : Code} (C : CX D cy s0 p s m args meth c cX10_node 5 RX10 (some .int)) (hn : meth.name = "node") : ∀ (n : Nat) (x0 : Nat) (x3 : Int32) (x4 : Int32) (h : Hp) (r : Int32 × Hp), fX10_node_281 n x0 x3 x4 h = some r → pX10_node_281 D cy s0 p l e s m args below meth c r x0 x3 x4 h := by
  intro n
  induction n with
  | zero => intro x0 x3 x4 h r hf; exact absurd hf (fun q => by cases q)
  | succ n ih => exact bX10_node_281_body C hn ih
set_option maxRecDepth 100000 in
set_option maxHeartbeats 4000000 in
theorem bX10_node_270 {D : va_G} {cy : Nat → ClassId} {s0 : Nat} {p : Program} {l : Launch} {e : Env} {s : State} {m : MethodId} {args : Array Value} {below : List Frame} {meth : Method} {c : Code} (C : CX D cy s0 p s m args meth c cX10_node 5 RX10 (some .int)) (hn : meth.name = "node") {k250 : Nat → Int32 → Int32 → Hp → Option (Int32 × Hp)} (hk250 : ∀ (x0 : Nat) (x3 : Int32) (x4 : Int32) (h : Hp) (r : Int32 × Hp), k250 x0 x3 x4 h = some r → pX10_node_250 D cy s0 p l e s m args below meth c r x0 x3 x4 h) : ∀ (x0 : Nat) (x3 : Int32) (x4 : Int32) (h : Hp) (r : Int32 × Hp), fX10_node_270 k250 x0 x3 x4 h = some r → pX10_node_270 D cy s0 p l e s m args below meth c r x0 x3 x4 h := by
  intro x0 x3 x4 h ⟨rv, rh⟩ hf H locs ls cells slots hc hs hw hl
  unfold fX10_node_270 at hf
  have hx := C.1
  have hb := C.2.1
  refine lv_iinc (v := (x4 + (1 : Int32))) (lv' := [(4, .int (x4 + (1 : Int32))), (0, .ref x0), (3, .int x3)]) hx hb dX10_node_270 hl (k := 2) rfl rfl (by decide) rfl (fun ls hl => ?_)
  refine lv_goto (tgt := 250) hx hb dX10_node_273 (by decide) ?_
  exact hk250 _ _ _ _ _ hf _ _ _ _ _ (by omega) (by omega) hw (lv_sub hl [1, 2, 0] rfl)
set_option maxRecDepth 100000 in
set_option maxHeartbeats 4000000 in
theorem bX10_node_250_body {D : va_G} {cy : Nat → ClassId} {s0 : Nat} {p : Program} {l : Launch} {e : Env} {s : State} {m : MethodId} {args : Array Value} {below : List Frame} {meth : Method} {c : Code} (C : CX D cy s0 p s m args meth c cX10_node 5 RX10 (some .int)) (hn : meth.name = "node") {k250 : Nat → Int32 → Int32 → Hp → Option (Int32 × Hp)} (hk250 : ∀ (x0 : Nat) (x3 : Int32) (x4 : Int32) (h : Hp) (r : Int32 × Hp), k250 x0 x3 x4 h = some r → pX10_node_250 D cy s0 p l e s m args below meth c r x0 x3 x4 h) : ∀ (x0 : Nat) (x3 : Int32) (x4 : Int32) (h : Hp) (r : Int32 × Hp), fX10_node_250_body k250 x0 x3 x4 h = some r → pX10_node_250 D cy s0 p l e s m args below meth c r x0 x3 x4 h := by
  intro x0 x3 x4 h ⟨rv, rh⟩ hf H locs ls cells slots hc hs hw hl
  unfold fX10_node_250_body at hf
  have hx := C.1
  have hb := C.2.1
  refine lv_iload hx hb dX10_node_250 (lv_at hl 2 rfl) ?_
  refine lv_bipush (v := (64 : Int32)) hx hb dX10_node_252 (by decide) ?_
  refine lv_icmp_ge (tgt := 276) hx hb dX10_node_254 (by decide) (fun c1 => ?_) (fun c1 => ?_)
  · have hf := ip hf c1
    refine lv_iload_n hx hb dX10_node_276 rfl (lv_at hl 1 rfl) ?_
    obtain ⟨rfl, rfl⟩ := sp hf
    exact r_iret C hw rfl rfl (by omega) (by omega) dX10_node_277
  · have hf := ie hf c1
    refine lv_aload_n hx hb dX10_node_257 rfl (lv_at hl 0 rfl) ?_
    obtain ⟨z2, e2, hf⟩ := ob hf
    refine r_gR C hw e2 ck10 rfl (by decide) w996 dX10_node_258 ?_
    cases z2 with
    | none =>
      have hf := on_n hf
      cases hf
    | some a3 =>
      have hf := on_s hf
      refine W.eq (g2 := F0 m 261 ls [.ref a3]) rfl ?_
      refine lv_iload hx hb dX10_node_261 (lv_at hl 2 rfl) ?_
      obtain ⟨z4, e4, hf⟩ := ob hf
      refine r_iald C hw e4 dX10_node_263 ?_
      refine lv_if_le (tgt := 270) hx hb dX10_node_264 (by decide) (fun c5 => ?_) (fun c5 => ?_)
      · have hf := ip hf c5
        exact bX10_node_270 C hn hk250 _ _ _ _ _ hf _ _ _ _ _ (by omega) (by omega) hw (lv_sub hl [0, 1, 2] rfl)
      · have hf := ie hf c5
        refine lv_iinc (v := (x3 + (1 : Int32))) (lv' := [(3, .int (x3 + (1 : Int32))), (0, .ref x0), (4, .int x4)]) hx hb dX10_node_267 hl (k := 1) rfl rfl (by decide) rfl (fun ls hl => ?_)
        exact bX10_node_270 C hn hk250 _ _ _ _ _ hf _ _ _ _ _ (by omega) (by omega) hw (lv_sub hl [1, 0, 2] rfl)
set_option maxRecDepth 100000 in
set_option maxHeartbeats 4000000 in
theorem bX10_node_250 {D : va_G} {cy : Nat → ClassId} {s0 : Nat} {p : Program} {l : Launch} {e : Env} {s : State} {m : MethodId} {args : Array Value} {below : List Frame} {meth : Method} {c : Code} (C : CX D cy s0 p s m args meth c cX10_node 5 RX10 (some .int)) (hn : meth.name = "node") : ∀ (n : Nat) (x0 : Nat) (x3 : Int32) (x4 : Int32) (h : Hp) (r : Int32 × Hp), fX10_node_250 n x0 x3 x4 h = some r → pX10_node_250 D cy s0 p l e s m args below meth c r x0 x3 x4 h := by
  intro n
  induction n with
  | zero => intro x0 x3 x4 h r hf; exact absurd hf (fun q => by cases q)
  | succ n ih => exact bX10_node_250_body C hn ih
set_option maxRecDepth 100000 in
set_option maxHeartbeats 4000000 in
theorem bX10_node_36 {D : va_G} {cy : Nat → ClassId} {s0 : Nat} {p : Program} {l : Launch} {e : Env} {s : State} {m : MethodId} {args : Array Value} {below : List Frame} {meth : Method} {c : Code} (C : CX D cy s0 p s m args meth c cX10_node 5 RX10 (some .int)) (hn : meth.name = "node") : ∀ (x0 : Nat) (x1 : Int32) (x2 : Int32) (y0 : Int32) (y1 : Nat) (h : Hp) (r : Int32 × Hp), fX10_node_36 x0 x1 x2 y0 y1 h = some r → pX10_node_36 D cy s0 p l e s m args below meth c r x0 x1 x2 y0 y1 h := by
  intro x0 x1 x2 y0 y1 h ⟨rv, rh⟩ hf H locs ls cells slots hc hs hw hl
  unfold fX10_node_36 at hf
  have hx := C.1
  have hb := C.2.1
  refine lv_iconst (v := (2 : Int32)) hx hb dX10_node_36 (by decide) ?_
  obtain ⟨kb1, hf⟩ := ig hf
  obtain ⟨z1, h1, e1, hf⟩ := ob2 hf
  refine r_callV C hw (mX10_bad e1) kXX10_bad ck10 rfl kb1 w1132 w1134 v35 ⟨Nat.le_of_ble_eq_true rfl, Nat.le_of_ble_eq_true rfl⟩ rfl hl.1 (rest := []) rfl (Nat.le_of_ble_eq_true rfl) dX10_node_37 (mc := 0) (ms := 0) rfl rfl ⟨by show _ + 0 ≤ 0; omega, by show _ + 0 ≤ 0; omega⟩ (fun H locs hw => ?_)
  refine W.eq (g2 := F0 m 40 ls [.int z1]) rfl ?_
  refine lv_if_eq (tgt := 45) hx hb dX10_node_40 (by decide) (fun c2 => ?_) (fun c2 => ?_)
  · have hf := ip hf c2
    refine lv_iload_n hx hb dX10_node_45 rfl (lv_at hl 2 rfl) ?_
    by_cases n51 : x2 = (0 : Int32)
    · have hf := ip hf n51
      refine lv_tableIn (tgt := 92) (off := 46) hx hb dX10_node_46 (by rw [n51]; decide) (by rw [n51]; decide) (by rw [n51]; rfl) (by decide) ?_
      refine lv_aload_n hx hb dX10_node_92 rfl (lv_at hl 0 rfl) ?_
      obtain ⟨z18, e18, hf⟩ := ob hf
      refine r_gR C hw e18 ck10 rfl (by decide) w964 dX10_node_93 ?_
      cases z18 with
      | none =>
        have hf := on_n hf
        cases hf
      | some a19 =>
        have hf := on_s hf
        refine W.eq (g2 := F0 m 96 ls [.ref a19]) rfl ?_
        refine lv_iload_n hx hb dX10_node_96 rfl (lv_at hl 1 rfl) ?_
        obtain ⟨z20, e20, hf⟩ := ob hf
        refine r_zald C hw e20 dX10_node_97 ?_
        refine lv_if_eq (tgt := 105) hx hb dX10_node_98 (by decide) (fun c21 => ?_) (fun c21 => ?_)
        · have hf := ip hf c21
          refine lv_iconst (v := (0 : Int32)) hx hb dX10_node_105 (by decide) ?_
          obtain ⟨rfl, rfl⟩ := sp hf
          exact r_iret C hw rfl rfl (by omega) (by omega) dX10_node_106
        · have hf := ie hf c21
          refine lv_iconst (v := (1 : Int32)) hx hb dX10_node_101 (by decide) ?_
          refine lv_goto (tgt := 106) hx hb dX10_node_102 (by decide) ?_
          obtain ⟨rfl, rfl⟩ := sp hf
          exact r_iret C hw rfl rfl (by omega) (by omega) dX10_node_106
    · have hf := ie hf n51
      by_cases n52 : x2 = (1 : Int32)
      · have hf := ip hf n52
        refine lv_tableIn (tgt := 107) (off := 61) hx hb dX10_node_46 (by rw [n52]; decide) (by rw [n52]; decide) (by rw [n52]; rfl) (by decide) ?_
        refine lv_aload_n hx hb dX10_node_107 rfl (lv_at hl 0 rfl) ?_
        obtain ⟨z22, e22, hf⟩ := ob hf
        refine r_gR C hw e22 ck10 rfl (by decide) w965 dX10_node_108 ?_
        cases z22 with
        | none =>
          have hf := on_n hf
          cases hf
        | some a23 =>
          have hf := on_s hf
          refine W.eq (g2 := F0 m 111 ls [.ref a23]) rfl ?_
          refine lv_iload_n hx hb dX10_node_111 rfl (lv_at hl 1 rfl) ?_
          obtain ⟨z24, e24, hf⟩ := ob hf
          refine r_iald C hw e24 dX10_node_112 ?_
          obtain ⟨rfl, rfl⟩ := sp hf
          exact r_iret C hw rfl rfl (by omega) (by omega) dX10_node_113
      · have hf := ie hf n52
        by_cases n53 : x2 = (2 : Int32)
        · have hf := ip hf n53
          refine lv_tableIn (tgt := 114) (off := 68) hx hb dX10_node_46 (by rw [n53]; decide) (by rw [n53]; decide) (by rw [n53]; rfl) (by decide) ?_
          refine lv_aload_n hx hb dX10_node_114 rfl (lv_at hl 0 rfl) ?_
          obtain ⟨z25, e25, hf⟩ := ob hf
          refine r_gR C hw e25 ck10 rfl (by decide) w966 dX10_node_115 ?_
          cases z25 with
          | none =>
            have hf := on_n hf
            cases hf
          | some a26 =>
            have hf := on_s hf
            refine W.eq (g2 := F0 m 118 ls [.ref a26]) rfl ?_
            refine lv_iload_n hx hb dX10_node_118 rfl (lv_at hl 1 rfl) ?_
            obtain ⟨z27, e27, hf⟩ := ob hf
            refine r_iald C hw e27 dX10_node_119 ?_
            obtain ⟨rfl, rfl⟩ := sp hf
            exact r_iret C hw rfl rfl (by omega) (by omega) dX10_node_120
        · have hf := ie hf n53
          by_cases n54 : x2 = (3 : Int32)
          · have hf := ip hf n54
            refine lv_tableIn (tgt := 121) (off := 75) hx hb dX10_node_46 (by rw [n54]; decide) (by rw [n54]; decide) (by rw [n54]; rfl) (by decide) ?_
            refine lv_aload_n hx hb dX10_node_121 rfl (lv_at hl 0 rfl) ?_
            obtain ⟨z28, e28, hf⟩ := ob hf
            refine r_gR C hw e28 ck10 rfl (by decide) w971 dX10_node_122 ?_
            cases z28 with
            | none =>
              have hf := on_n hf
              cases hf
            | some a29 =>
              have hf := on_s hf
              refine W.eq (g2 := F0 m 125 ls [.ref a29]) rfl ?_
              refine lv_iload_n hx hb dX10_node_125 rfl (lv_at hl 1 rfl) ?_
              obtain ⟨z30, e30, hf⟩ := ob hf
              refine r_iald C hw e30 dX10_node_126 ?_
              obtain ⟨rfl, rfl⟩ := sp hf
              exact r_iret C hw rfl rfl (by omega) (by omega) dX10_node_127
          · have hf := ie hf n54
            by_cases n55 : x2 = (4 : Int32)
            · have hf := ip hf n55
              refine lv_tableIn (tgt := 128) (off := 82) hx hb dX10_node_46 (by rw [n55]; decide) (by rw [n55]; decide) (by rw [n55]; rfl) (by decide) ?_
              refine lv_aload_n hx hb dX10_node_128 rfl (lv_at hl 0 rfl) ?_
              obtain ⟨z31, e31, hf⟩ := ob hf
              refine r_gR C hw e31 ck10 rfl (by decide) w967 dX10_node_129 ?_
              cases z31 with
              | none =>
                have hf := on_n hf
                cases hf
              | some a32 =>
                have hf := on_s hf
                refine W.eq (g2 := F0 m 132 ls [.ref a32]) rfl ?_
                refine lv_iload_n hx hb dX10_node_132 rfl (lv_at hl 1 rfl) ?_
                obtain ⟨z33, e33, hf⟩ := ob hf
                refine r_iald C hw e33 dX10_node_133 ?_
                obtain ⟨rfl, rfl⟩ := sp hf
                exact r_iret C hw rfl rfl (by omega) (by omega) dX10_node_134
            · have hf := ie hf n55
              by_cases n56 : x2 = (5 : Int32)
              · have hf := ip hf n56
                refine lv_tableIn (tgt := 135) (off := 89) hx hb dX10_node_46 (by rw [n56]; decide) (by rw [n56]; decide) (by rw [n56]; rfl) (by decide) ?_
                refine lv_aload_n hx hb dX10_node_135 rfl (lv_at hl 0 rfl) ?_
                obtain ⟨z34, e34, hf⟩ := ob hf
                refine r_gR C hw e34 ck10 rfl (by decide) w968 dX10_node_136 ?_
                cases z34 with
                | none =>
                  have hf := on_n hf
                  cases hf
                | some a35 =>
                  have hf := on_s hf
                  refine W.eq (g2 := F0 m 139 ls [.ref a35]) rfl ?_
                  refine lv_iload_n hx hb dX10_node_139 rfl (lv_at hl 1 rfl) ?_
                  obtain ⟨z36, e36, hf⟩ := ob hf
                  refine r_iald C hw e36 dX10_node_140 ?_
                  obtain ⟨rfl, rfl⟩ := sp hf
                  exact r_iret C hw rfl rfl (by omega) (by omega) dX10_node_141
              · have hf := ie hf n56
                by_cases n57 : x2 = (6 : Int32)
                · have hf := ip hf n57
                  refine lv_tableIn (tgt := 142) (off := 96) hx hb dX10_node_46 (by rw [n57]; decide) (by rw [n57]; decide) (by rw [n57]; rfl) (by decide) ?_
                  refine lv_aload_n hx hb dX10_node_142 rfl (lv_at hl 0 rfl) ?_
                  obtain ⟨z37, e37, hf⟩ := ob hf
                  refine r_gR C hw e37 ck10 rfl (by decide) w964 dX10_node_143 ?_
                  cases z37 with
                  | none =>
                    have hf := on_n hf
                    cases hf
                  | some a38 =>
                    have hf := on_s hf
                    refine W.eq (g2 := F0 m 146 ls [.ref a38]) rfl ?_
                    refine lv_iload_n hx hb dX10_node_146 rfl (lv_at hl 1 rfl) ?_
                    obtain ⟨z39, e39, hf⟩ := ob hf
                    refine r_zald C hw e39 dX10_node_147 ?_
                    refine lv_if_eq (tgt := 160) hx hb dX10_node_148 (by decide) (fun c40 => ?_) (fun c40 => ?_)
                    · have hf := ip hf c40
                      refine lv_aload_n hx hb dX10_node_160 rfl (lv_at hl 0 rfl) ?_
                      obtain ⟨z41, e41, hf⟩ := ob hf
                      refine r_gR C hw e41 ck10 rfl (by decide) w967 dX10_node_161 ?_
                      cases z41 with
                      | none =>
                        have hf := on_n hf
                        cases hf
                      | some a42 =>
                        have hf := on_s hf
                        refine W.eq (g2 := F0 m 164 ls [.ref a42]) rfl ?_
                        refine lv_iload_n hx hb dX10_node_164 rfl (lv_at hl 1 rfl) ?_
                        obtain ⟨z43, e43, hf⟩ := ob hf
                        refine r_iald C hw e43 dX10_node_165 ?_
                        obtain ⟨rfl, rfl⟩ := sp hf
                        exact r_iret C hw rfl rfl (by omega) (by omega) dX10_node_166
                    · have hf := ie hf c40
                      refine lv_aload_n hx hb dX10_node_151 rfl (lv_at hl 0 rfl) ?_
                      obtain ⟨z44, e44, hf⟩ := ob hf
                      refine r_gR C hw e44 ck10 rfl (by decide) w969 dX10_node_152 ?_
                      cases z44 with
                      | none =>
                        have hf := on_n hf
                        cases hf
                      | some a45 =>
                        have hf := on_s hf
                        refine W.eq (g2 := F0 m 155 ls [.ref a45]) rfl ?_
                        refine lv_iload_n hx hb dX10_node_155 rfl (lv_at hl 1 rfl) ?_
                        obtain ⟨z46, e46, hf⟩ := ob hf
                        refine r_iald C hw e46 dX10_node_156 ?_
                        refine lv_goto (tgt := 166) hx hb dX10_node_157 (by decide) ?_
                        obtain ⟨rfl, rfl⟩ := sp hf
                        exact r_iret C hw rfl rfl (by omega) (by omega) dX10_node_166
                · have hf := ie hf n57
                  by_cases n58 : x2 = (7 : Int32)
                  · have hf := ip hf n58
                    refine lv_tableIn (tgt := 167) (off := 121) hx hb dX10_node_46 (by rw [n58]; decide) (by rw [n58]; decide) (by rw [n58]; rfl) (by decide) ?_
                    refine lv_aload_n hx hb dX10_node_167 rfl (lv_at hl 0 rfl) ?_
                    refine lv_iload_n hx hb dX10_node_168 rfl (lv_at hl 1 rfl) ?_
                    refine lv_aload_n hx hb dX10_node_169 rfl (lv_at hl 0 rfl) ?_
                    obtain ⟨z47, e47, hf⟩ := ob hf
                    refine r_gR C hw e47 ck10 rfl (by decide) w968 dX10_node_170 ?_
                    cases z47 with
                    | none =>
                      have hf := on_n hf
                      cases hf
                    | some a48 =>
                      have hf := on_s hf
                      refine W.eq (g2 := F0 m 173 ls [.ref a48, .int x1, .ref x0]) rfl ?_
                      refine lv_iload_n hx hb dX10_node_173 rfl (lv_at hl 1 rfl) ?_
                      obtain ⟨z49, e49, hf⟩ := ob hf
                      refine r_iald C hw e49 dX10_node_174 ?_
                      obtain ⟨kb50, hf⟩ := ig hf
                      obtain ⟨z50, h50, e50, hf⟩ := ob2 hf
                      refine r_callV C hw (mX10_termAt e50) kXX10_termAt ck10 rfl kb50 w1148 w1150 v39 ⟨Nat.le_of_ble_eq_true rfl, Nat.le_of_ble_eq_true rfl⟩ rfl hl.1 (rest := []) rfl (Nat.le_of_ble_eq_true rfl) dX10_node_175 (mc := 0) (ms := 0) rfl rfl ⟨by show _ + 0 ≤ 0; omega, by show _ + 0 ≤ 0; omega⟩ (fun H locs hw => ?_)
                      refine W.eq (g2 := F0 m 178 ls [.int z50]) rfl ?_
                      obtain ⟨rfl, rfl⟩ := sp hf
                      exact r_iret C hw rfl rfl (by omega) (by omega) dX10_node_178
                  · have hf := ie hf n58
                    refine lv_tableOut (tgt := 179) hx hb dX10_node_46 (tsw_out (x := x2) 0 [(0 : Int32), (1 : Int32), (2 : Int32), (3 : Int32), (4 : Int32), (5 : Int32), (6 : Int32), (7 : Int32)] (by decide) (List.forall_mem_cons.mpr ⟨n51, List.forall_mem_cons.mpr ⟨n52, List.forall_mem_cons.mpr ⟨n53, List.forall_mem_cons.mpr ⟨n54, List.forall_mem_cons.mpr ⟨n55, List.forall_mem_cons.mpr ⟨n56, List.forall_mem_cons.mpr ⟨n57, List.forall_mem_cons.mpr ⟨n58, fun _ h9 => absurd h9 List.not_mem_nil⟩⟩⟩⟩⟩⟩⟩⟩)) (by decide) ?_
                    refine lv_aload_n hx hb dX10_node_179 rfl (lv_at hl 0 rfl) ?_
                    obtain ⟨z3, e3, hf⟩ := ob hf
                    refine r_gR C hw e3 ck10 rfl (by decide) w964 dX10_node_180 ?_
                    cases z3 with
                    | none =>
                      have hf := on_n hf
                      cases hf
                    | some a4 =>
                      have hf := on_s hf
                      refine W.eq (g2 := F0 m 183 ls [.ref a4]) rfl ?_
                      refine lv_iload_n hx hb dX10_node_183 rfl (lv_at hl 1 rfl) ?_
                      obtain ⟨z5, e5, hf⟩ := ob hf
                      refine r_zald C hw e5 dX10_node_184 ?_
                      refine lv_if_ne (tgt := 190) hx hb dX10_node_185 (by decide) (fun c6 => ?_) (fun c6 => ?_)
                      · have hf := ie hf c6
                        refine lv_aload_n hx hb dX10_node_190 rfl (lv_at hl 0 rfl) ?_
                        refine lv_iload_n hx hb dX10_node_191 rfl (lv_at hl 1 rfl) ?_
                        obtain ⟨kb7, hf⟩ := ig hf
                        obtain ⟨z7, h7, e7, hf⟩ := ob2 hf
                        refine r_callV C hw (mX10_work e7) kXX10_work ck10 rfl kb7 w1245 w1247 v53 ⟨Nat.le_of_ble_eq_true rfl, Nat.le_of_ble_eq_true rfl⟩ rfl hl.1 (rest := []) rfl (Nat.le_of_ble_eq_true rfl) dX10_node_192 (mc := 0) (ms := 0) rfl rfl ⟨by show _ + 0 ≤ 0; omega, by show _ + 0 ≤ 0; omega⟩ (fun H locs hw => ?_)
                        refine W.eq (g2 := F0 m 195 ls []) rfl ?_
                        refine lv_iconst (v := (0 : Int32)) hx hb dX10_node_195 (by decide) ?_
                        refine lv_istore_n (lv' := [(3, .int (0 : Int32)), (0, .ref x0), (1, .int x1), (2, .int x2)]) hx hb dX10_node_196 rfl hl (by decide) rfl (fun ls hl => ?_)
                        refine lv_iload_n hx hb dX10_node_197 rfl (lv_at hl 3 rfl) ?_
                        by_cases n13 : x2 = (8 : Int32)
                        · have hf := ip hf n13
                          refine lv_tableIn (tgt := 232) (off := 34) hx hb dX10_node_198 (by rw [n13]; decide) (by rw [n13]; decide) (by rw [n13]; rfl) (by decide) ?_
                          refine lv_aload_n hx hb dX10_node_232 rfl (lv_at hl 1 rfl) ?_
                          obtain ⟨z10, e10, hf⟩ := ob hf
                          refine r_gI C hw e10 ck10 rfl (by decide) w1003 dX10_node_233 ?_
                          obtain ⟨rfl, rfl⟩ := sp hf
                          exact r_iret C hw rfl rfl (by omega) (by omega) dX10_node_236
                        · have hf := ie hf n13
                          by_cases n14 : x2 = (9 : Int32)
                          · have hf := ip hf n14
                            refine lv_tableIn (tgt := 237) (off := 39) hx hb dX10_node_198 (by rw [n14]; decide) (by rw [n14]; decide) (by rw [n14]; rfl) (by decide) ?_
                            refine lv_aload_n hx hb dX10_node_237 rfl (lv_at hl 1 rfl) ?_
                            obtain ⟨z11, e11, hf⟩ := ob hf
                            refine r_gI C hw e11 ck10 rfl (by decide) w1004 dX10_node_238 ?_
                            obtain ⟨rfl, rfl⟩ := sp hf
                            exact r_iret C hw rfl rfl (by omega) (by omega) dX10_node_241
                          · have hf := ie hf n14
                            by_cases n15 : x2 = (10 : Int32)
                            · have hf := ip hf n15
                              refine lv_tableIn (tgt := 242) (off := 44) hx hb dX10_node_198 (by rw [n15]; decide) (by rw [n15]; decide) (by rw [n15]; rfl) (by decide) ?_
                              refine lv_aload_n hx hb dX10_node_242 rfl (lv_at hl 1 rfl) ?_
                              obtain ⟨z12, e12, hf⟩ := ob hf
                              refine r_gI C hw e12 ck10 rfl (by decide) w1005 dX10_node_243 ?_
                              obtain ⟨rfl, rfl⟩ := sp hf
                              exact r_iret C hw rfl rfl (by omega) (by omega) dX10_node_246
                            · have hf := ie hf n15
                              by_cases n16 : x2 = (11 : Int32)
                              · have hf := ip hf n16
                                refine lv_tableIn (tgt := 247) (off := 49) hx hb dX10_node_198 (by rw [n16]; decide) (by rw [n16]; decide) (by rw [n16]; rfl) (by decide) ?_
                                refine lv_iconst (v := (0 : Int32)) hx hb dX10_node_247 (by decide) ?_
                                refine lv_istore (lv' := [(4, .int (0 : Int32)), (3, .int (0 : Int32)), (0, .ref x0), (1, .int x1), (2, .int x2)]) hx hb dX10_node_248 hl (by decide) rfl (fun ls hl => ?_)
                                exact bX10_node_250 C hn LF _ _ _ _ _ hf _ _ _ _ _ (by omega) (by omega) hw (lv_sub hl [2, 1, 0] rfl)
                              · have hf := ie hf n16
                                by_cases n17 : x2 = (12 : Int32)
                                · have hf := ip hf n17
                                  refine lv_tableIn (tgt := 278) (off := 80) hx hb dX10_node_198 (by rw [n17]; decide) (by rw [n17]; decide) (by rw [n17]; rfl) (by decide) ?_
                                  refine lv_iconst (v := (1 : Int32)) hx hb dX10_node_278 (by decide) ?_
                                  refine lv_istore (lv' := [(4, .int (1 : Int32)), (3, .int (0 : Int32)), (0, .ref x0), (1, .int x1), (2, .int x2)]) hx hb dX10_node_279 hl (by decide) rfl (fun ls hl => ?_)
                                  exact bX10_node_281 C hn LF _ _ _ _ _ hf _ _ _ _ _ (by omega) (by omega) hw (lv_sub hl [2, 1, 0] rfl)
                                · have hf := ie hf n17
                                  refine lv_tableOut (tgt := 315) hx hb dX10_node_198 (tsw_out (x := x2) 8 [(8 : Int32), (9 : Int32), (10 : Int32), (11 : Int32), (12 : Int32)] (by decide) (List.forall_mem_cons.mpr ⟨n13, List.forall_mem_cons.mpr ⟨n14, List.forall_mem_cons.mpr ⟨n15, List.forall_mem_cons.mpr ⟨n16, List.forall_mem_cons.mpr ⟨n17, fun _ h9 => absurd h9 List.not_mem_nil⟩⟩⟩⟩⟩)) (by decide) ?_
                                  refine lv_aload_n hx hb dX10_node_315 rfl (lv_at hl 1 rfl) ?_
                                  obtain ⟨z8, e8, hf⟩ := ob hf
                                  refine r_gI C hw e8 ck10 rfl (by decide) w1010 dX10_node_316 ?_
                                  refine lv_aload_n hx hb dX10_node_319 rfl (lv_at hl 1 rfl) ?_
                                  obtain ⟨kb9, hf⟩ := ig hf
                                  obtain ⟨z9, h9, e9, hf⟩ := ob2 hf
                                  refine r_callV C hw (mX10_firstEvent e9) kXX10_firstEvent ck10 rfl kb9 w1273 w1275 v60 ⟨Nat.le_of_ble_eq_true rfl, Nat.le_of_ble_eq_true rfl⟩ rfl hl.1 (rest := [.int z8]) rfl (Nat.le_of_ble_eq_true rfl) dX10_node_320 (mc := 0) (ms := 0) rfl rfl ⟨by show _ + 0 ≤ 0; omega, by show _ + 0 ≤ 0; omega⟩ (fun H locs hw => ?_)
                                  refine W.eq (g2 := F0 m 323 ls [.int z9, .int z8]) rfl ?_
                                  refine lv_isub hx hb dX10_node_323 ?_
                                  obtain ⟨rfl, rfl⟩ := sp hf
                                  exact r_iret C hw rfl rfl (by omega) (by omega) dX10_node_324
                      · have hf := ip hf c6
                        refine lv_iconst (v := (0 : Int32)) hx hb dX10_node_188 (by decide) ?_
                        obtain ⟨rfl, rfl⟩ := sp hf
                        exact r_iret C hw rfl rfl (by omega) (by omega) dX10_node_189
  · have hf := ie hf c2
    refine lv_iconst (v := (0 : Int32)) hx hb dX10_node_43 (by decide) ?_
    obtain ⟨rfl, rfl⟩ := sp hf
    exact r_iret C hw rfl rfl (by omega) (by omega) dX10_node_44
set_option maxRecDepth 100000 in
set_option maxHeartbeats 4000000 in
theorem bX10_node_31 {D : va_G} {cy : Nat → ClassId} {s0 : Nat} {p : Program} {l : Launch} {e : Env} {s : State} {m : MethodId} {args : Array Value} {below : List Frame} {meth : Method} {c : Code} (C : CX D cy s0 p s m args meth c cX10_node 5 RX10 (some .int)) (hn : meth.name = "node") : ∀ (x0 : Nat) (x1 : Int32) (x2 : Int32) (y0 : Nat) (h : Hp) (r : Int32 × Hp), fX10_node_31 x0 x1 x2 y0 h = some r → pX10_node_31 D cy s0 p l e s m args below meth c r x0 x1 x2 y0 h := by
  intro x0 x1 x2 y0 h ⟨rv, rh⟩ hf H locs ls cells slots hc hs hw hl
  unfold fX10_node_31 at hf
  have hx := C.1
  have hb := C.2.1
  refine lv_iconst (v := (1 : Int32)) hx hb dX10_node_31 (by decide) ?_
  refine lv_goto (tgt := 36) hx hb dX10_node_32 (by decide) ?_
  exact bX10_node_36 C hn _ _ _ _ _ _ _ hf _ _ _ _ _ (by omega) (by omega) hw (lv_sub hl [0, 1, 2] rfl)
set_option maxRecDepth 100000 in
set_option maxHeartbeats 4000000 in
theorem bX10_node_13 {D : va_G} {cy : Nat → ClassId} {s0 : Nat} {p : Program} {l : Launch} {e : Env} {s : State} {m : MethodId} {args : Array Value} {below : List Frame} {meth : Method} {c : Code} (C : CX D cy s0 p s m args meth c cX10_node 5 RX10 (some .int)) (hn : meth.name = "node") : ∀ (x0 : Nat) (x1 : Int32) (x2 : Int32) (y0 : Int32) (y1 : Nat) (h : Hp) (r : Int32 × Hp), fX10_node_13 x0 x1 x2 y0 y1 h = some r → pX10_node_13 D cy s0 p l e s m args below meth c r x0 x1 x2 y0 y1 h := by
  intro x0 x1 x2 y0 y1 h ⟨rv, rh⟩ hf H locs ls cells slots hc hs hw hl
  unfold fX10_node_13 at hf
  have hx := C.1
  have hb := C.2.1
  refine lv_iconst (v := (1 : Int32)) hx hb dX10_node_13 (by decide) ?_
  obtain ⟨kb1, hf⟩ := ig hf
  obtain ⟨z1, h1, e1, hf⟩ := ob2 hf
  refine r_callV C hw (mX10_bad e1) kXX10_bad ck10 rfl kb1 w1132 w1134 v35 ⟨Nat.le_of_ble_eq_true rfl, Nat.le_of_ble_eq_true rfl⟩ rfl hl.1 (rest := []) rfl (Nat.le_of_ble_eq_true rfl) dX10_node_14 (mc := 0) (ms := 0) rfl rfl ⟨by show _ + 0 ≤ 0; omega, by show _ + 0 ≤ 0; omega⟩ (fun H locs hw => ?_)
  refine W.eq (g2 := F0 m 17 ls [.int z1]) rfl ?_
  refine lv_if_ne (tgt := 43) hx hb dX10_node_17 (by decide) (fun c2 => ?_) (fun c2 => ?_)
  · have hf := ie hf c2
    refine lv_iconst (v := (0 : Int32)) hx hb dX10_node_43 (by decide) ?_
    obtain ⟨rfl, rfl⟩ := sp hf
    exact r_iret C hw rfl rfl (by omega) (by omega) dX10_node_44
  · have hf := ip hf c2
    refine lv_aload_n hx hb dX10_node_20 rfl (lv_at hl 0 rfl) ?_
    refine lv_iload_n hx hb dX10_node_21 rfl (lv_at hl 2 rfl) ?_
    refine lv_if_lt (tgt := 31) hx hb dX10_node_22 (by decide) (fun c3 => ?_) (fun c3 => ?_)
    · have hf := ip hf c3
      exact bX10_node_31 C hn _ _ _ _ _ _ hf _ _ _ _ _ (by omega) (by omega) hw (lv_sub hl [0, 1, 2] rfl)
    · have hf := ie hf c3
      refine lv_iload_n hx hb dX10_node_25 rfl (lv_at hl 2 rfl) ?_
      refine lv_bipush (v := (13 : Int32)) hx hb dX10_node_26 (by decide) ?_
      refine lv_icmp_le (tgt := 35) hx hb dX10_node_28 (by decide) (fun c4 => ?_) (fun c4 => ?_)
      · have hf := ip hf c4
        refine lv_iconst (v := (0 : Int32)) hx hb dX10_node_35 (by decide) ?_
        exact bX10_node_36 C hn _ _ _ _ _ _ _ hf _ _ _ _ _ (by omega) (by omega) hw (lv_sub hl [0, 1, 2] rfl)
      · have hf := ie hf c4
        exact bX10_node_31 C hn _ _ _ _ _ _ hf _ _ _ _ _ (by omega) (by omega) hw (lv_sub hl [0, 1, 2] rfl)
set_option maxRecDepth 100000 in
set_option maxHeartbeats 4000000 in
theorem bX10_node {D : va_G} {cy : Nat → ClassId} {s0 : Nat} {p : Program} {l : Launch} {e : Env} {s : State} {m : MethodId} {args : Array Value} {below : List Frame} {meth : Method} {c : Code} (C : CX D cy s0 p s m args meth c cX10_node 5 RX10 (some .int)) (hn : meth.name = "node") : ∀ (x0 : Nat) (x1 : Int32) (x2 : Int32) (h : Hp) (r : Int32 × Hp), fX10_node x0 x1 x2 h = some r → pX10_node D cy s0 p l e s m args below meth c r x0 x1 x2 h := by
  intro x0 x1 x2 h ⟨rv, rh⟩ hf H locs ls cells slots hc hs hw hl
  unfold fX10_node at hf
  have hx := C.1
  have hb := C.2.1
  refine lv_aload_n hx hb dX10_node_0 rfl (lv_at hl 0 rfl) ?_
  refine lv_iload_n hx hb dX10_node_1 rfl (lv_at hl 1 rfl) ?_
  obtain ⟨z1, h1, e1, hf⟩ := ob2 hf
  refine r_callS C hw (mX10_isNode e1) kXX10_isNode w1129 w1130 ⟨Nat.le_of_ble_eq_true rfl, Nat.le_of_ble_eq_true rfl⟩ rfl hl.1 (rest := [.ref x0]) rfl (Nat.le_of_ble_eq_true rfl) dX10_node_2 (mc := 0) (ms := 0) rfl rfl ⟨by show _ + 0 ≤ 0; omega, by show _ + 0 ≤ 0; omega⟩ (fun H locs hw => ?_)
  refine W.eq (g2 := F0 m 5 ls [.int z1, .ref x0]) rfl ?_
  refine lv_if_ne (tgt := 12) hx hb dX10_node_5 (by decide) (fun c2 => ?_) (fun c2 => ?_)
  · have hf := ie hf c2
    refine lv_iconst (v := (0 : Int32)) hx hb dX10_node_12 (by decide) ?_
    exact bX10_node_13 C hn _ _ _ _ _ _ _ hf _ _ _ _ _ (by omega) (by omega) hw (lv_sub hl [0, 1, 2] rfl)
  · have hf := ip hf c2
    refine lv_iconst (v := (1 : Int32)) hx hb dX10_node_8 (by decide) ?_
    refine lv_goto (tgt := 13) hx hb dX10_node_9 (by decide) ?_
    exact bX10_node_13 C hn _ _ _ _ _ _ _ hf _ _ _ _ _ (by omega) (by omega) hw (lv_sub hl [0, 1, 2] rfl)
theorem kXX10_node : MK yX10_node cX10_node 5 (some .int) 2 := ⟨w1303, w8, by decide +kernel⟩
theorem mX10_node {D : va_G} {cy : Nat → ClassId} {s0 : Nat} {l : Launch} {x0 : Nat} {x1 : Int32} {x2 : Int32} {h : Hp} {v : Int32} {h1 : Hp} (hf : fX10_node x0 x1 x2 h = some (v, h1)) : MT D cy s0 l yX10_node cX10_node 5 (some .int) rX10_node [.ref x0, .int x1, .int x2] h (some (.int v)) h1 := by
  refine MT.of (by decide +kernel) (Nat.le_of_ble_eq_true rfl) ?_
  intro p e s m below meth c H locs ls C hn hw hl
  exact bX10_node C hn _ _ _ _ _ hf _ _ _ _ _ (Nat.le_of_ble_eq_true rfl) (Nat.le_of_ble_eq_true rfl) hw hl
abbrev rX10_past : Room := { frames := 5, cells := 0, slots := 0, locals := 122 }
abbrev pX10_past_165 (D : va_G) (cy : Nat → ClassId) (s0 : Nat) (p : Program) (l : Launch) (e : Env) (s : State) (m : MethodId) (args : Array Value) (below : List Frame) (meth : Method) (c : Code) (r : Int32 × Hp) (x4 : Int32) (y0 : Int32) (y1 : Nat) (h : Hp) : Prop := ∀ (H : Heap) (locs : List Loc) (ls : Array Slot) (cells slots : Nat), cells + (0) ≤ 0 → slots + (0) ≤ 0 → WS D cy s0 s h H locs → lv_has ls 7 [(4, .int x4)] → W p l e rX10_past s m args below meth c H locs cells slots (MQ below (QQ D cy s0 (some (.int r.1)) r.2) args s 0 0 (fun q => s0 ≤ q)) (F0 m 165 ls [.int y0, .ref y1])
abbrev pX10_past_154 (D : va_G) (cy : Nat → ClassId) (s0 : Nat) (p : Program) (l : Launch) (e : Env) (s : State) (m : MethodId) (args : Array Value) (below : List Frame) (meth : Method) (c : Code) (r : Int32 × Hp) (x0 : Nat) (x4 : Int32) (x5 : Int32) (h : Hp) : Prop := ∀ (H : Heap) (locs : List Loc) (ls : Array Slot) (cells slots : Nat), cells + (0) ≤ 0 → slots + (0) ≤ 0 → WS D cy s0 s h H locs → lv_has ls 7 [(0, .ref x0), (4, .int x4), (5, .int x5)] → W p l e rX10_past s m args below meth c H locs cells slots (MQ below (QQ D cy s0 (some (.int r.1)) r.2) args s 0 0 (fun q => s0 ≤ q)) (F0 m 154 ls [])
abbrev pX10_past_148 (D : va_G) (cy : Nat → ClassId) (s0 : Nat) (p : Program) (l : Launch) (e : Env) (s : State) (m : MethodId) (args : Array Value) (below : List Frame) (meth : Method) (c : Code) (r : Int32 × Hp) (x0 : Nat) (x2 : Int32) (x3 : Int32) (x4 : Int32) (x5 : Int32) (x6 : Int32) (h : Hp) : Prop := ∀ (H : Heap) (locs : List Loc) (ls : Array Slot) (cells slots : Nat), cells + (0) ≤ 0 → slots + (0) ≤ 0 → WS D cy s0 s h H locs → lv_has ls 7 [(0, .ref x0), (2, .int x2), (3, .int x3), (4, .int x4), (5, .int x5), (6, .int x6)] → W p l e rX10_past s m args below meth c H locs cells slots (MQ below (QQ D cy s0 (some (.int r.1)) r.2) args s 0 0 (fun q => s0 ≤ q)) (F0 m 148 ls [])
abbrev pX10_past_96 (D : va_G) (cy : Nat → ClassId) (s0 : Nat) (p : Program) (l : Launch) (e : Env) (s : State) (m : MethodId) (args : Array Value) (below : List Frame) (meth : Method) (c : Code) (r : Int32 × Hp) (x0 : Nat) (x2 : Int32) (x3 : Int32) (x4 : Int32) (x5 : Int32) (x6 : Int32) (h : Hp) : Prop := ∀ (H : Heap) (locs : List Loc) (ls : Array Slot) (cells slots : Nat), cells + (0) ≤ 0 → slots + (0) ≤ 0 → WS D cy s0 s h H locs → lv_has ls 7 [(0, .ref x0), (2, .int x2), (3, .int x3), (4, .int x4), (5, .int x5), (6, .int x6)] → W p l e rX10_past s m args below meth c H locs cells slots (MQ below (QQ D cy s0 (some (.int r.1)) r.2) args s 0 0 (fun q => s0 ≤ q)) (F0 m 96 ls [])
abbrev pX10_past_78 (D : va_G) (cy : Nat → ClassId) (s0 : Nat) (p : Program) (l : Launch) (e : Env) (s : State) (m : MethodId) (args : Array Value) (below : List Frame) (meth : Method) (c : Code) (r : Int32 × Hp) (x0 : Nat) (x2 : Int32) (x3 : Int32) (y0 : Int32) (y1 : Nat) (h : Hp) : Prop := ∀ (H : Heap) (locs : List Loc) (ls : Array Slot) (cells slots : Nat), cells + (0) ≤ 0 → slots + (0) ≤ 0 → WS D cy s0 s h H locs → lv_has ls 7 [(0, .ref x0), (2, .int x2), (3, .int x3)] → W p l e rX10_past s m args below meth c H locs cells slots (MQ below (QQ D cy s0 (some (.int r.1)) r.2) args s 0 0 (fun q => s0 ≤ q)) (F0 m 78 ls [.int y0, .ref y1])
abbrev pX10_past_73 (D : va_G) (cy : Nat → ClassId) (s0 : Nat) (p : Program) (l : Launch) (e : Env) (s : State) (m : MethodId) (args : Array Value) (below : List Frame) (meth : Method) (c : Code) (r : Int32 × Hp) (x0 : Nat) (x2 : Int32) (x3 : Int32) (y0 : Nat) (h : Hp) : Prop := ∀ (H : Heap) (locs : List Loc) (ls : Array Slot) (cells slots : Nat), cells + (0) ≤ 0 → slots + (0) ≤ 0 → WS D cy s0 s h H locs → lv_has ls 7 [(0, .ref x0), (2, .int x2), (3, .int x3)] → W p l e rX10_past s m args below meth c H locs cells slots (MQ below (QQ D cy s0 (some (.int r.1)) r.2) args s 0 0 (fun q => s0 ≤ q)) (F0 m 73 ls [.ref y0])
abbrev pX10_past_42 (D : va_G) (cy : Nat → ClassId) (s0 : Nat) (p : Program) (l : Launch) (e : Env) (s : State) (m : MethodId) (args : Array Value) (below : List Frame) (meth : Method) (c : Code) (r : Int32 × Hp) (x0 : Nat) (x1 : Int32) (x2 : Int32) (x3 : Int32) (y0 : Int32) (y1 : Nat) (h : Hp) : Prop := ∀ (H : Heap) (locs : List Loc) (ls : Array Slot) (cells slots : Nat), cells + (0) ≤ 0 → slots + (0) ≤ 0 → WS D cy s0 s h H locs → lv_has ls 7 [(0, .ref x0), (1, .int x1), (2, .int x2), (3, .int x3)] → W p l e rX10_past s m args below meth c H locs cells slots (MQ below (QQ D cy s0 (some (.int r.1)) r.2) args s 0 0 (fun q => s0 ≤ q)) (F0 m 42 ls [.int y0, .ref y1])
abbrev pX10_past_20 (D : va_G) (cy : Nat → ClassId) (s0 : Nat) (p : Program) (l : Launch) (e : Env) (s : State) (m : MethodId) (args : Array Value) (below : List Frame) (meth : Method) (c : Code) (r : Int32 × Hp) (x0 : Nat) (x1 : Int32) (x2 : Int32) (x3 : Int32) (y0 : Int32) (y1 : Nat) (h : Hp) : Prop := ∀ (H : Heap) (locs : List Loc) (ls : Array Slot) (cells slots : Nat), cells + (0) ≤ 0 → slots + (0) ≤ 0 → WS D cy s0 s h H locs → lv_has ls 7 [(0, .ref x0), (1, .int x1), (2, .int x2), (3, .int x3)] → W p l e rX10_past s m args below meth c H locs cells slots (MQ below (QQ D cy s0 (some (.int r.1)) r.2) args s 0 0 (fun q => s0 ≤ q)) (F0 m 20 ls [.int y0, .ref y1])
abbrev pX10_past_15 (D : va_G) (cy : Nat → ClassId) (s0 : Nat) (p : Program) (l : Launch) (e : Env) (s : State) (m : MethodId) (args : Array Value) (below : List Frame) (meth : Method) (c : Code) (r : Int32 × Hp) (x0 : Nat) (x1 : Int32) (x2 : Int32) (x3 : Int32) (y0 : Nat) (h : Hp) : Prop := ∀ (H : Heap) (locs : List Loc) (ls : Array Slot) (cells slots : Nat), cells + (0) ≤ 0 → slots + (0) ≤ 0 → WS D cy s0 s h H locs → lv_has ls 7 [(0, .ref x0), (1, .int x1), (2, .int x2), (3, .int x3)] → W p l e rX10_past s m args below meth c H locs cells slots (MQ below (QQ D cy s0 (some (.int r.1)) r.2) args s 0 0 (fun q => s0 ≤ q)) (F0 m 15 ls [.ref y0])
abbrev pX10_past (D : va_G) (cy : Nat → ClassId) (s0 : Nat) (p : Program) (l : Launch) (e : Env) (s : State) (m : MethodId) (args : Array Value) (below : List Frame) (meth : Method) (c : Code) (r : Int32 × Hp) (x0 : Nat) (x1 : Int32) (x2 : Int32) (x3 : Int32) (h : Hp) : Prop := ∀ (H : Heap) (locs : List Loc) (ls : Array Slot) (cells slots : Nat), cells + (0) ≤ 0 → slots + (0) ≤ 0 → WS D cy s0 s h H locs → lv_has ls 7 [(0, .ref x0), (1, .int x1), (2, .int x2), (3, .int x3)] → W p l e rX10_past s m args below meth c H locs cells slots (MQ below (QQ D cy s0 (some (.int r.1)) r.2) args s 0 0 (fun q => s0 ≤ q)) (F0 m 0 ls [])
set_option maxRecDepth 100000 in
set_option maxHeartbeats 4000000 in
theorem bX10_past_165 {D : va_G} {cy : Nat → ClassId} {s0 : Nat} {p : Program} {l : Launch} {e : Env} {s : State} {m : MethodId} {args : Array Value} {below : List Frame} {meth : Method} {c : Code} (C : CX D cy s0 p s m args meth c cX10_past 7 RX10 (some .int)) (hn : meth.name = "past") : ∀ (x4 : Int32) (y0 : Int32) (y1 : Nat) (h : Hp) (r : Int32 × Hp), fX10_past_165 x4 y0 y1 h = some r → pX10_past_165 D cy s0 p l e s m args below meth c r x4 y0 y1 h := by
  intro x4 y0 y1 h ⟨rv, rh⟩ hf H locs ls cells slots hc hs hw hl
  unfold fX10_past_165 at hf
  have hx := C.1
  have hb := C.2.1
  refine lv_iconst (v := (4 : Int32)) hx hb dX10_past_165 (by decide) ?_
  obtain ⟨kb1, hf⟩ := ig hf
  obtain ⟨z1, h1, e1, hf⟩ := ob2 hf
  refine r_callV C hw (mX10_bad e1) kXX10_bad ck10 rfl kb1 w1132 w1134 v35 ⟨Nat.le_of_ble_eq_true rfl, Nat.le_of_ble_eq_true rfl⟩ rfl hl.1 (rest := []) rfl (Nat.le_of_ble_eq_true rfl) dX10_past_166 (mc := 0) (ms := 0) rfl rfl ⟨by show _ + 0 ≤ 0; omega, by show _ + 0 ≤ 0; omega⟩ (fun H locs hw => ?_)
  refine W.eq (g2 := F0 m 169 ls [.int z1]) rfl ?_
  refine lv_if_eq (tgt := 176) hx hb dX10_past_169 (by decide) (fun c2 => ?_) (fun c2 => ?_)
  · have hf := ip hf c2
    refine lv_iload hx hb dX10_past_176 (lv_at hl 0 rfl) ?_
    obtain ⟨rfl, rfl⟩ := sp hf
    exact r_iret C hw rfl rfl (by omega) (by omega) dX10_past_178
  · have hf := ie hf c2
    refine lv_iconst (v := (0 : Int32)) hx hb dX10_past_172 (by decide) ?_
    refine lv_goto (tgt := 178) hx hb dX10_past_173 (by decide) ?_
    obtain ⟨rfl, rfl⟩ := sp hf
    exact r_iret C hw rfl rfl (by omega) (by omega) dX10_past_178
set_option maxRecDepth 100000 in
set_option maxHeartbeats 4000000 in
theorem bX10_past_154 {D : va_G} {cy : Nat → ClassId} {s0 : Nat} {p : Program} {l : Launch} {e : Env} {s : State} {m : MethodId} {args : Array Value} {below : List Frame} {meth : Method} {c : Code} (C : CX D cy s0 p s m args meth c cX10_past 7 RX10 (some .int)) (hn : meth.name = "past") : ∀ (x0 : Nat) (x4 : Int32) (x5 : Int32) (h : Hp) (r : Int32 × Hp), fX10_past_154 x0 x4 x5 h = some r → pX10_past_154 D cy s0 p l e s m args below meth c r x0 x4 x5 h := by
  intro x0 x4 x5 h ⟨rv, rh⟩ hf H locs ls cells slots hc hs hw hl
  unfold fX10_past_154 at hf
  have hx := C.1
  have hb := C.2.1
  refine lv_aload_n hx hb dX10_past_154 rfl (lv_at hl 0 rfl) ?_
  refine lv_iload hx hb dX10_past_155 (lv_at hl 2 rfl) ?_
  refine lv_if_ne (tgt := 164) hx hb dX10_past_157 (by decide) (fun c1 => ?_) (fun c1 => ?_)
  · have hf := ie hf c1
    refine lv_iconst (v := (0 : Int32)) hx hb dX10_past_164 (by decide) ?_
    exact bX10_past_165 C hn _ _ _ _ _ hf _ _ _ _ _ (by omega) (by omega) hw (lv_sub hl [1] rfl)
  · have hf := ip hf c1
    refine lv_iconst (v := (1 : Int32)) hx hb dX10_past_160 (by decide) ?_
    refine lv_goto (tgt := 165) hx hb dX10_past_161 (by decide) ?_
    exact bX10_past_165 C hn _ _ _ _ _ hf _ _ _ _ _ (by omega) (by omega) hw (lv_sub hl [1] rfl)
set_option maxRecDepth 100000 in
set_option maxHeartbeats 4000000 in
theorem bX10_past_148 {D : va_G} {cy : Nat → ClassId} {s0 : Nat} {p : Program} {l : Launch} {e : Env} {s : State} {m : MethodId} {args : Array Value} {below : List Frame} {meth : Method} {c : Code} (C : CX D cy s0 p s m args meth c cX10_past 7 RX10 (some .int)) (hn : meth.name = "past") {k96 : Nat → Int32 → Int32 → Int32 → Int32 → Int32 → Hp → Option (Int32 × Hp)} (hk96 : ∀ (x0 : Nat) (x2 : Int32) (x3 : Int32) (x4 : Int32) (x5 : Int32) (x6 : Int32) (h : Hp) (r : Int32 × Hp), k96 x0 x2 x3 x4 x5 x6 h = some r → pX10_past_96 D cy s0 p l e s m args below meth c r x0 x2 x3 x4 x5 x6 h) : ∀ (x0 : Nat) (x2 : Int32) (x3 : Int32) (x4 : Int32) (x5 : Int32) (x6 : Int32) (h : Hp) (r : Int32 × Hp), fX10_past_148 k96 x0 x2 x3 x4 x5 x6 h = some r → pX10_past_148 D cy s0 p l e s m args below meth c r x0 x2 x3 x4 x5 x6 h := by
  intro x0 x2 x3 x4 x5 x6 h ⟨rv, rh⟩ hf H locs ls cells slots hc hs hw hl
  unfold fX10_past_148 at hf
  have hx := C.1
  have hb := C.2.1
  refine lv_iinc (v := (x6 + (1 : Int32))) (lv' := [(6, .int (x6 + (1 : Int32))), (0, .ref x0), (2, .int x2), (3, .int x3), (4, .int x4), (5, .int x5)]) hx hb dX10_past_148 hl (k := 5) rfl rfl (by decide) rfl (fun ls hl => ?_)
  refine lv_goto (tgt := 96) hx hb dX10_past_151 (by decide) ?_
  exact hk96 _ _ _ _ _ _ _ _ hf _ _ _ _ _ (by omega) (by omega) hw (lv_sub hl [1, 2, 3, 4, 5, 0] rfl)
set_option maxRecDepth 100000 in
set_option maxHeartbeats 4000000 in
theorem bX10_past_96_body {D : va_G} {cy : Nat → ClassId} {s0 : Nat} {p : Program} {l : Launch} {e : Env} {s : State} {m : MethodId} {args : Array Value} {below : List Frame} {meth : Method} {c : Code} (C : CX D cy s0 p s m args meth c cX10_past 7 RX10 (some .int)) (hn : meth.name = "past") {k96 : Nat → Int32 → Int32 → Int32 → Int32 → Int32 → Hp → Option (Int32 × Hp)} (hk96 : ∀ (x0 : Nat) (x2 : Int32) (x3 : Int32) (x4 : Int32) (x5 : Int32) (x6 : Int32) (h : Hp) (r : Int32 × Hp), k96 x0 x2 x3 x4 x5 x6 h = some r → pX10_past_96 D cy s0 p l e s m args below meth c r x0 x2 x3 x4 x5 x6 h) : ∀ (x0 : Nat) (x2 : Int32) (x3 : Int32) (x4 : Int32) (x5 : Int32) (x6 : Int32) (h : Hp) (r : Int32 × Hp), fX10_past_96_body k96 x0 x2 x3 x4 x5 x6 h = some r → pX10_past_96 D cy s0 p l e s m args below meth c r x0 x2 x3 x4 x5 x6 h := by
  intro x0 x2 x3 x4 x5 x6 h ⟨rv, rh⟩ hf H locs ls cells slots hc hs hw hl
  unfold fX10_past_96_body at hf
  have hx := C.1
  have hb := C.2.1
  refine lv_iload hx hb dX10_past_96 (lv_at hl 5 rfl) ?_
  refine lv_aload_n hx hb dX10_past_98 rfl (lv_at hl 0 rfl) ?_
  obtain ⟨z1, e1, hf⟩ := ob hf
  refine r_gI C hw e1 ck10 rfl (by decide) w1010 dX10_past_99 ?_
  refine lv_icmp_ge (tgt := 154) hx hb dX10_past_102 (by decide) (fun c2 => ?_) (fun c2 => ?_)
  · have hf := ip hf c2
    exact bX10_past_154 C hn _ _ _ _ _ hf _ _ _ _ _ (by omega) (by omega) hw (lv_sub hl [0, 3, 4] rfl)
  · have hf := ie hf c2
    refine lv_aload_n hx hb dX10_past_105 rfl (lv_at hl 0 rfl) ?_
    obtain ⟨z3, e3, hf⟩ := ob hf
    refine r_gR C hw e3 ck10 rfl (by decide) w1006 dX10_past_106 ?_
    cases z3 with
    | none =>
      have hf := on_n hf
      cases hf
    | some a4 =>
      have hf := on_s hf
      refine W.eq (g2 := F0 m 109 ls [.ref a4]) rfl ?_
      refine lv_iload hx hb dX10_past_109 (lv_at hl 5 rfl) ?_
      obtain ⟨z5, e5, hf⟩ := ob hf
      refine r_iald C hw e5 dX10_past_111 ?_
      refine lv_iload_n hx hb dX10_past_112 rfl (lv_at hl 2 rfl) ?_
      refine lv_icmp_gt (tgt := 154) hx hb dX10_past_113 (by decide) (fun c6 => ?_) (fun c6 => ?_)
      · have hf := ip hf c6
        exact bX10_past_154 C hn _ _ _ _ _ hf _ _ _ _ _ (by omega) (by omega) hw (lv_sub hl [0, 3, 4] rfl)
      · have hf := ie hf c6
        refine lv_aload_n hx hb dX10_past_116 rfl (lv_at hl 0 rfl) ?_
        obtain ⟨z7, e7, hf⟩ := ob hf
        refine r_gR C hw e7 ck10 rfl (by decide) w1007 dX10_past_117 ?_
        cases z7 with
        | none =>
          have hf := on_n hf
          cases hf
        | some a8 =>
          have hf := on_s hf
          refine W.eq (g2 := F0 m 120 ls [.ref a8]) rfl ?_
          refine lv_iload hx hb dX10_past_120 (lv_at hl 5 rfl) ?_
          obtain ⟨z9, e9, hf⟩ := ob hf
          refine r_iald C hw e9 dX10_past_122 ?_
          refine lv_iload_n hx hb dX10_past_123 rfl (lv_at hl 1 rfl) ?_
          refine lv_icmp_eq (tgt := 130) hx hb dX10_past_124 (by decide) (fun c10 => ?_) (fun c10 => ?_)
          · have hf := ip hf c10
            refine lv_aload_n hx hb dX10_past_130 rfl (lv_at hl 0 rfl) ?_
            obtain ⟨z11, e11, hf⟩ := ob hf
            refine r_gR C hw e11 ck10 rfl (by decide) w1009 dX10_past_131 ?_
            cases z11 with
            | none =>
              have hf := on_n hf
              cases hf
            | some a12 =>
              have hf := on_s hf
              refine W.eq (g2 := F0 m 134 ls [.ref a12]) rfl ?_
              refine lv_iload hx hb dX10_past_134 (lv_at hl 5 rfl) ?_
              obtain ⟨z13, e13, hf⟩ := ob hf
              refine r_zald C hw e13 dX10_past_136 ?_
              refine lv_istore (lv' := [(5, .int z13), (0, .ref x0), (2, .int x2), (3, .int x3), (4, .int x4), (6, .int x6)]) hx hb dX10_past_137 hl (by decide) rfl (fun ls hl => ?_)
              refine lv_aload_n hx hb dX10_past_139 rfl (lv_at hl 1 rfl) ?_
              obtain ⟨z14, e14, hf⟩ := ob hf
              refine r_gR C hw e14 ck10 rfl (by decide) w1008 dX10_past_140 ?_
              cases z14 with
              | none =>
                have hf := on_n hf
                cases hf
              | some a15 =>
                have hf := on_s hf
                refine W.eq (g2 := F0 m 143 ls [.ref a15]) rfl ?_
                refine lv_iload hx hb dX10_past_143 (lv_at hl 5 rfl) ?_
                obtain ⟨z16, e16, hf⟩ := ob hf
                refine r_iald C hw e16 dX10_past_145 ?_
                refine lv_istore (lv' := [(4, .int z16), (5, .int z13), (0, .ref x0), (2, .int x2), (3, .int x3), (6, .int x6)]) hx hb dX10_past_146 hl (by decide) rfl (fun ls hl => ?_)
                exact bX10_past_148 C hn hk96 _ _ _ _ _ _ _ _ hf _ _ _ _ _ (by omega) (by omega) hw (lv_sub hl [2, 3, 4, 0, 1, 5] rfl)
          · have hf := ie hf c10
            refine lv_goto (tgt := 148) hx hb dX10_past_127 (by decide) ?_
            exact bX10_past_148 C hn hk96 _ _ _ _ _ _ _ _ hf _ _ _ _ _ (by omega) (by omega) hw (lv_sub hl [0, 1, 2, 3, 4, 5] rfl)
set_option maxRecDepth 100000 in
set_option maxHeartbeats 4000000 in
theorem bX10_past_96 {D : va_G} {cy : Nat → ClassId} {s0 : Nat} {p : Program} {l : Launch} {e : Env} {s : State} {m : MethodId} {args : Array Value} {below : List Frame} {meth : Method} {c : Code} (C : CX D cy s0 p s m args meth c cX10_past 7 RX10 (some .int)) (hn : meth.name = "past") : ∀ (n : Nat) (x0 : Nat) (x2 : Int32) (x3 : Int32) (x4 : Int32) (x5 : Int32) (x6 : Int32) (h : Hp) (r : Int32 × Hp), fX10_past_96 n x0 x2 x3 x4 x5 x6 h = some r → pX10_past_96 D cy s0 p l e s m args below meth c r x0 x2 x3 x4 x5 x6 h := by
  intro n
  induction n with
  | zero => intro x0 x2 x3 x4 x5 x6 h r hf; exact absurd hf (fun q => by cases q)
  | succ n ih => exact bX10_past_96_body C hn ih
set_option maxRecDepth 100000 in
set_option maxHeartbeats 4000000 in
theorem bX10_past_78 {D : va_G} {cy : Nat → ClassId} {s0 : Nat} {p : Program} {l : Launch} {e : Env} {s : State} {m : MethodId} {args : Array Value} {below : List Frame} {meth : Method} {c : Code} (C : CX D cy s0 p s m args meth c cX10_past 7 RX10 (some .int)) (hn : meth.name = "past") : ∀ (x0 : Nat) (x2 : Int32) (x3 : Int32) (y0 : Int32) (y1 : Nat) (h : Hp) (r : Int32 × Hp), fX10_past_78 x0 x2 x3 y0 y1 h = some r → pX10_past_78 D cy s0 p l e s m args below meth c r x0 x2 x3 y0 y1 h := by
  intro x0 x2 x3 y0 y1 h ⟨rv, rh⟩ hf H locs ls cells slots hc hs hw hl
  unfold fX10_past_78 at hf
  have hx := C.1
  have hb := C.2.1
  refine lv_iconst (v := (3 : Int32)) hx hb dX10_past_78 (by decide) ?_
  obtain ⟨kb1, hf⟩ := ig hf
  obtain ⟨z1, h1, e1, hf⟩ := ob2 hf
  refine r_callV C hw (mX10_bad e1) kXX10_bad ck10 rfl kb1 w1132 w1134 v35 ⟨Nat.le_of_ble_eq_true rfl, Nat.le_of_ble_eq_true rfl⟩ rfl hl.1 (rest := []) rfl (Nat.le_of_ble_eq_true rfl) dX10_past_79 (mc := 0) (ms := 0) rfl rfl ⟨by show _ + 0 ≤ 0; omega, by show _ + 0 ≤ 0; omega⟩ (fun H locs hw => ?_)
  refine W.eq (g2 := F0 m 82 ls [.int z1]) rfl ?_
  refine lv_if_eq (tgt := 87) hx hb dX10_past_82 (by decide) (fun c2 => ?_) (fun c2 => ?_)
  · have hf := ip hf c2
    refine lv_iconst (v := (0 : Int32)) hx hb dX10_past_87 (by decide) ?_
    refine lv_istore (lv' := [(4, .int (0 : Int32)), (0, .ref x0), (2, .int x2), (3, .int x3)]) hx hb dX10_past_88 hl (by decide) rfl (fun ls hl => ?_)
    refine lv_iconst (v := (0 : Int32)) hx hb dX10_past_90 (by decide) ?_
    refine lv_istore (lv' := [(5, .int (0 : Int32)), (4, .int (0 : Int32)), (0, .ref x0), (2, .int x2), (3, .int x3)]) hx hb dX10_past_91 hl (by decide) rfl (fun ls hl => ?_)
    refine lv_iconst (v := (0 : Int32)) hx hb dX10_past_93 (by decide) ?_
    refine lv_istore (lv' := [(6, .int (0 : Int32)), (5, .int (0 : Int32)), (4, .int (0 : Int32)), (0, .ref x0), (2, .int x2), (3, .int x3)]) hx hb dX10_past_94 hl (by decide) rfl (fun ls hl => ?_)
    exact bX10_past_96 C hn LF _ _ _ _ _ _ _ _ hf _ _ _ _ _ (by omega) (by omega) hw (lv_sub hl [3, 4, 5, 2, 1, 0] rfl)
  · have hf := ie hf c2
    refine lv_iconst (v := (0 : Int32)) hx hb dX10_past_85 (by decide) ?_
    obtain ⟨rfl, rfl⟩ := sp hf
    exact r_iret C hw rfl rfl (by omega) (by omega) dX10_past_86
set_option maxRecDepth 100000 in
set_option maxHeartbeats 4000000 in
theorem bX10_past_73 {D : va_G} {cy : Nat → ClassId} {s0 : Nat} {p : Program} {l : Launch} {e : Env} {s : State} {m : MethodId} {args : Array Value} {below : List Frame} {meth : Method} {c : Code} (C : CX D cy s0 p s m args meth c cX10_past 7 RX10 (some .int)) (hn : meth.name = "past") : ∀ (x0 : Nat) (x2 : Int32) (x3 : Int32) (y0 : Nat) (h : Hp) (r : Int32 × Hp), fX10_past_73 x0 x2 x3 y0 h = some r → pX10_past_73 D cy s0 p l e s m args below meth c r x0 x2 x3 y0 h := by
  intro x0 x2 x3 y0 h ⟨rv, rh⟩ hf H locs ls cells slots hc hs hw hl
  unfold fX10_past_73 at hf
  have hx := C.1
  have hb := C.2.1
  refine lv_iconst (v := (1 : Int32)) hx hb dX10_past_73 (by decide) ?_
  refine lv_goto (tgt := 78) hx hb dX10_past_74 (by decide) ?_
  exact bX10_past_78 C hn _ _ _ _ _ _ _ hf _ _ _ _ _ (by omega) (by omega) hw (lv_sub hl [0, 1, 2] rfl)
set_option maxRecDepth 100000 in
set_option maxHeartbeats 4000000 in
theorem bX10_past_42 {D : va_G} {cy : Nat → ClassId} {s0 : Nat} {p : Program} {l : Launch} {e : Env} {s : State} {m : MethodId} {args : Array Value} {below : List Frame} {meth : Method} {c : Code} (C : CX D cy s0 p s m args meth c cX10_past 7 RX10 (some .int)) (hn : meth.name = "past") : ∀ (x0 : Nat) (x1 : Int32) (x2 : Int32) (x3 : Int32) (y0 : Int32) (y1 : Nat) (h : Hp) (r : Int32 × Hp), fX10_past_42 x0 x1 x2 x3 y0 y1 h = some r → pX10_past_42 D cy s0 p l e s m args below meth c r x0 x1 x2 x3 y0 y1 h := by
  intro x0 x1 x2 x3 y0 y1 h ⟨rv, rh⟩ hf H locs ls cells slots hc hs hw hl
  unfold fX10_past_42 at hf
  have hx := C.1
  have hb := C.2.1
  refine lv_iconst (v := (2 : Int32)) hx hb dX10_past_42 (by decide) ?_
  obtain ⟨kb1, hf⟩ := ig hf
  obtain ⟨z1, h1, e1, hf⟩ := ob2 hf
  refine r_callV C hw (mX10_bad e1) kXX10_bad ck10 rfl kb1 w1132 w1134 v35 ⟨Nat.le_of_ble_eq_true rfl, Nat.le_of_ble_eq_true rfl⟩ rfl hl.1 (rest := []) rfl (Nat.le_of_ble_eq_true rfl) dX10_past_43 (mc := 0) (ms := 0) rfl rfl ⟨by show _ + 0 ≤ 0; omega, by show _ + 0 ≤ 0; omega⟩ (fun H locs hw => ?_)
  refine W.eq (g2 := F0 m 46 ls [.int z1]) rfl ?_
  refine lv_if_eq (tgt := 51) hx hb dX10_past_46 (by decide) (fun c2 => ?_) (fun c2 => ?_)
  · have hf := ip hf c2
    refine lv_aload_n hx hb dX10_past_51 rfl (lv_at hl 0 rfl) ?_
    refine lv_iload_n hx hb dX10_past_52 rfl (lv_at hl 1 rfl) ?_
    obtain ⟨kb3, hf⟩ := ig hf
    obtain ⟨z3, h3, e3, hf⟩ := ob2 hf
    refine r_callV C hw (mX10_work e3) kXX10_work ck10 rfl kb3 w1245 w1247 v53 ⟨Nat.le_of_ble_eq_true rfl, Nat.le_of_ble_eq_true rfl⟩ rfl hl.1 (rest := []) rfl (Nat.le_of_ble_eq_true rfl) dX10_past_53 (mc := 0) (ms := 0) rfl rfl ⟨by show _ + 0 ≤ 0; omega, by show _ + 0 ≤ 0; omega⟩ (fun H locs hw => ?_)
    refine W.eq (g2 := F0 m 56 ls []) rfl ?_
    refine lv_aload_n hx hb dX10_past_56 rfl (lv_at hl 0 rfl) ?_
    refine lv_iload_n hx hb dX10_past_57 rfl (lv_at hl 3 rfl) ?_
    refine lv_aload_n hx hb dX10_past_58 rfl (lv_at hl 0 rfl) ?_
    obtain ⟨z4, e4, hf⟩ := ob hf
    refine r_gI C hw e4 ck10 rfl (by decide) w1005 dX10_past_59 ?_
    refine lv_icmp_lt (tgt := 73) hx hb dX10_past_62 (by decide) (fun c5 => ?_) (fun c5 => ?_)
    · have hf := ip hf c5
      exact bX10_past_73 C hn _ _ _ _ _ _ hf _ _ _ _ _ (by omega) (by omega) hw (lv_sub hl [0, 2, 3] rfl)
    · have hf := ie hf c5
      refine lv_iload_n hx hb dX10_past_65 rfl (lv_at hl 3 rfl) ?_
      refine lv_aload_n hx hb dX10_past_66 rfl (lv_at hl 0 rfl) ?_
      obtain ⟨z6, e6, hf⟩ := ob hf
      refine r_gI C hw e6 ck10 rfl (by decide) w1003 dX10_past_67 ?_
      refine lv_icmp_le (tgt := 77) hx hb dX10_past_70 (by decide) (fun c7 => ?_) (fun c7 => ?_)
      · have hf := ip hf c7
        refine lv_iconst (v := (0 : Int32)) hx hb dX10_past_77 (by decide) ?_
        exact bX10_past_78 C hn _ _ _ _ _ _ _ hf _ _ _ _ _ (by omega) (by omega) hw (lv_sub hl [0, 2, 3] rfl)
      · have hf := ie hf c7
        exact bX10_past_73 C hn _ _ _ _ _ _ hf _ _ _ _ _ (by omega) (by omega) hw (lv_sub hl [0, 2, 3] rfl)
  · have hf := ie hf c2
    refine lv_iconst (v := (0 : Int32)) hx hb dX10_past_49 (by decide) ?_
    obtain ⟨rfl, rfl⟩ := sp hf
    exact r_iret C hw rfl rfl (by omega) (by omega) dX10_past_50
set_option maxRecDepth 100000 in
set_option maxHeartbeats 4000000 in
theorem bX10_past_20 {D : va_G} {cy : Nat → ClassId} {s0 : Nat} {p : Program} {l : Launch} {e : Env} {s : State} {m : MethodId} {args : Array Value} {below : List Frame} {meth : Method} {c : Code} (C : CX D cy s0 p s m args meth c cX10_past 7 RX10 (some .int)) (hn : meth.name = "past") : ∀ (x0 : Nat) (x1 : Int32) (x2 : Int32) (x3 : Int32) (y0 : Int32) (y1 : Nat) (h : Hp) (r : Int32 × Hp), fX10_past_20 x0 x1 x2 x3 y0 y1 h = some r → pX10_past_20 D cy s0 p l e s m args below meth c r x0 x1 x2 x3 y0 y1 h := by
  intro x0 x1 x2 x3 y0 y1 h ⟨rv, rh⟩ hf H locs ls cells slots hc hs hw hl
  unfold fX10_past_20 at hf
  have hx := C.1
  have hb := C.2.1
  refine lv_iconst (v := (1 : Int32)) hx hb dX10_past_20 (by decide) ?_
  obtain ⟨kb1, hf⟩ := ig hf
  obtain ⟨z1, h1, e1, hf⟩ := ob2 hf
  refine r_callV C hw (mX10_bad e1) kXX10_bad ck10 rfl kb1 w1132 w1134 v35 ⟨Nat.le_of_ble_eq_true rfl, Nat.le_of_ble_eq_true rfl⟩ rfl hl.1 (rest := []) rfl (Nat.le_of_ble_eq_true rfl) dX10_past_21 (mc := 0) (ms := 0) rfl rfl ⟨by show _ + 0 ≤ 0; omega, by show _ + 0 ≤ 0; omega⟩ (fun H locs hw => ?_)
  refine W.eq (g2 := F0 m 24 ls [.int z1]) rfl ?_
  refine lv_if_ne (tgt := 49) hx hb dX10_past_24 (by decide) (fun c2 => ?_) (fun c2 => ?_)
  · have hf := ie hf c2
    refine lv_iconst (v := (0 : Int32)) hx hb dX10_past_49 (by decide) ?_
    obtain ⟨rfl, rfl⟩ := sp hf
    exact r_iret C hw rfl rfl (by omega) (by omega) dX10_past_50
  · have hf := ip hf c2
    refine lv_aload_n hx hb dX10_past_27 rfl (lv_at hl 0 rfl) ?_
    refine lv_aload_n hx hb dX10_past_28 rfl (lv_at hl 0 rfl) ?_
    obtain ⟨z3, e3, hf⟩ := ob hf
    refine r_gR C hw e3 ck10 rfl (by decide) w964 dX10_past_29 ?_
    cases z3 with
    | none =>
      have hf := on_n hf
      cases hf
    | some a4 =>
      have hf := on_s hf
      refine W.eq (g2 := F0 m 32 ls [.ref a4, .ref x0]) rfl ?_
      refine lv_iload_n hx hb dX10_past_32 rfl (lv_at hl 1 rfl) ?_
      obtain ⟨z5, e5, hf⟩ := ob hf
      refine r_zald C hw e5 dX10_past_33 ?_
      refine lv_if_ne (tgt := 41) hx hb dX10_past_34 (by decide) (fun c6 => ?_) (fun c6 => ?_)
      · have hf := ie hf c6
        refine lv_iconst (v := (0 : Int32)) hx hb dX10_past_41 (by decide) ?_
        exact bX10_past_42 C hn _ _ _ _ _ _ _ _ hf _ _ _ _ _ (by omega) (by omega) hw (lv_sub hl [0, 1, 2, 3] rfl)
      · have hf := ip hf c6
        refine lv_iconst (v := (1 : Int32)) hx hb dX10_past_37 (by decide) ?_
        refine lv_goto (tgt := 42) hx hb dX10_past_38 (by decide) ?_
        exact bX10_past_42 C hn _ _ _ _ _ _ _ _ hf _ _ _ _ _ (by omega) (by omega) hw (lv_sub hl [0, 1, 2, 3] rfl)
set_option maxRecDepth 100000 in
set_option maxHeartbeats 4000000 in
theorem bX10_past_15 {D : va_G} {cy : Nat → ClassId} {s0 : Nat} {p : Program} {l : Launch} {e : Env} {s : State} {m : MethodId} {args : Array Value} {below : List Frame} {meth : Method} {c : Code} (C : CX D cy s0 p s m args meth c cX10_past 7 RX10 (some .int)) (hn : meth.name = "past") : ∀ (x0 : Nat) (x1 : Int32) (x2 : Int32) (x3 : Int32) (y0 : Nat) (h : Hp) (r : Int32 × Hp), fX10_past_15 x0 x1 x2 x3 y0 h = some r → pX10_past_15 D cy s0 p l e s m args below meth c r x0 x1 x2 x3 y0 h := by
  intro x0 x1 x2 x3 y0 h ⟨rv, rh⟩ hf H locs ls cells slots hc hs hw hl
  unfold fX10_past_15 at hf
  have hx := C.1
  have hb := C.2.1
  refine lv_iconst (v := (1 : Int32)) hx hb dX10_past_15 (by decide) ?_
  refine lv_goto (tgt := 20) hx hb dX10_past_16 (by decide) ?_
  exact bX10_past_20 C hn _ _ _ _ _ _ _ _ hf _ _ _ _ _ (by omega) (by omega) hw (lv_sub hl [0, 1, 2, 3] rfl)
set_option maxRecDepth 100000 in
set_option maxHeartbeats 4000000 in
theorem bX10_past {D : va_G} {cy : Nat → ClassId} {s0 : Nat} {p : Program} {l : Launch} {e : Env} {s : State} {m : MethodId} {args : Array Value} {below : List Frame} {meth : Method} {c : Code} (C : CX D cy s0 p s m args meth c cX10_past 7 RX10 (some .int)) (hn : meth.name = "past") : ∀ (x0 : Nat) (x1 : Int32) (x2 : Int32) (x3 : Int32) (h : Hp) (r : Int32 × Hp), fX10_past x0 x1 x2 x3 h = some r → pX10_past D cy s0 p l e s m args below meth c r x0 x1 x2 x3 h := by
  intro x0 x1 x2 x3 h ⟨rv, rh⟩ hf H locs ls cells slots hc hs hw hl
  unfold fX10_past at hf
  have hx := C.1
  have hb := C.2.1
  refine lv_aload_n hx hb dX10_past_0 rfl (lv_at hl 0 rfl) ?_
  refine lv_iload_n hx hb dX10_past_1 rfl (lv_at hl 1 rfl) ?_
  obtain ⟨z1, h1, e1, hf⟩ := ob2 hf
  refine r_callS C hw (mX10_isNode e1) kXX10_isNode w1129 w1130 ⟨Nat.le_of_ble_eq_true rfl, Nat.le_of_ble_eq_true rfl⟩ rfl hl.1 (rest := [.ref x0]) rfl (Nat.le_of_ble_eq_true rfl) dX10_past_2 (mc := 0) (ms := 0) rfl rfl ⟨by show _ + 0 ≤ 0; omega, by show _ + 0 ≤ 0; omega⟩ (fun H locs hw => ?_)
  refine W.eq (g2 := F0 m 5 ls [.int z1, .ref x0]) rfl ?_
  refine lv_if_eq (tgt := 15) hx hb dX10_past_5 (by decide) (fun c2 => ?_) (fun c2 => ?_)
  · have hf := ip hf c2
    exact bX10_past_15 C hn _ _ _ _ _ _ _ hf _ _ _ _ _ (by omega) (by omega) hw (lv_sub hl [0, 1, 2, 3] rfl)
  · have hf := ie hf c2
    refine lv_iload_n hx hb dX10_past_8 rfl (lv_at hl 2 rfl) ?_
    obtain ⟨z3, h3, e3, hf⟩ := ob2 hf
    refine r_callS C hw (mX10_isKey e3) kXX10_isKey w1218 w1219 ⟨Nat.le_of_ble_eq_true rfl, Nat.le_of_ble_eq_true rfl⟩ rfl hl.1 (rest := [.ref x0]) rfl (Nat.le_of_ble_eq_true rfl) dX10_past_9 (mc := 0) (ms := 0) rfl rfl ⟨by show _ + 0 ≤ 0; omega, by show _ + 0 ≤ 0; omega⟩ (fun H locs hw => ?_)
    refine W.eq (g2 := F0 m 12 ls [.int z3, .ref x0]) rfl ?_
    refine lv_if_ne (tgt := 19) hx hb dX10_past_12 (by decide) (fun c4 => ?_) (fun c4 => ?_)
    · have hf := ie hf c4
      refine lv_iconst (v := (0 : Int32)) hx hb dX10_past_19 (by decide) ?_
      exact bX10_past_20 C hn _ _ _ _ _ _ _ _ hf _ _ _ _ _ (by omega) (by omega) hw (lv_sub hl [0, 1, 2, 3] rfl)
    · have hf := ip hf c4
      exact bX10_past_15 C hn _ _ _ _ _ _ _ hf _ _ _ _ _ (by omega) (by omega) hw (lv_sub hl [0, 1, 2, 3] rfl)
theorem kXX10_past : MK yX10_past cX10_past 7 (some .int) 3 := ⟨w1284, w8, by decide +kernel⟩
theorem mX10_past {D : va_G} {cy : Nat → ClassId} {s0 : Nat} {l : Launch} {x0 : Nat} {x1 : Int32} {x2 : Int32} {x3 : Int32} {h : Hp} {v : Int32} {h1 : Hp} (hf : fX10_past x0 x1 x2 x3 h = some (v, h1)) : MT D cy s0 l yX10_past cX10_past 7 (some .int) rX10_past [.ref x0, .int x1, .int x2, .int x3] h (some (.int v)) h1 := by
  refine MT.of (by decide +kernel) (Nat.le_of_ble_eq_true rfl) ?_
  intro p e s m below meth c H locs ls C hn hw hl
  exact bX10_past C hn _ _ _ _ _ _ hf _ _ _ _ _ (Nat.le_of_ble_eq_true rfl) (Nat.le_of_ble_eq_true rfl) hw hl
