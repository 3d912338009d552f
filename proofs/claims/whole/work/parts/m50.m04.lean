abbrev rX10_installs : Room := { frames := 2, cells := 0, slots := 0, locals := 48 }
abbrev pX10_installs_176 (D : va_G) (cy : Nat → ClassId) (s0 : Nat) (p : Program) (l : Launch) (e : Env) (s : State) (m : MethodId) (args : Array Value) (below : List Frame) (meth : Method) (c : Code) (r : Unit × Hp) (x0 : Nat) (x1 : Int32) (x2 : Int32) (x3 : Int32) (h : Hp) : Prop := ∀ (H : Heap) (locs : List Loc) (ls : Array Slot) (cells slots : Nat), cells + (0) ≤ 0 → slots + (0) ≤ 0 → WS D cy s0 s h H locs → lv_has ls 6 [(0, .ref x0), (1, .int x1), (2, .int x2), (3, .int x3)] → W p l e rX10_installs s m args below meth c H locs cells slots (MQ below (QQ D cy s0 none r.2) args s 0 0 (fun q => s0 ≤ q)) (F0 m 176 ls [])
abbrev pX10_installs_90 (D : va_G) (cy : Nat → ClassId) (s0 : Nat) (p : Program) (l : Launch) (e : Env) (s : State) (m : MethodId) (args : Array Value) (below : List Frame) (meth : Method) (c : Code) (r : Unit × Hp) (x0 : Nat) (x1 : Int32) (x2 : Int32) (x3 : Int32) (x4 : Int32) (x5 : Int32) (h : Hp) : Prop := ∀ (H : Heap) (locs : List Loc) (ls : Array Slot) (cells slots : Nat), cells + (0) ≤ 0 → slots + (0) ≤ 0 → WS D cy s0 s h H locs → lv_has ls 6 [(0, .ref x0), (1, .int x1), (2, .int x2), (3, .int x3), (4, .int x4), (5, .int x5)] → W p l e rX10_installs s m args below meth c H locs cells slots (MQ below (QQ D cy s0 none r.2) args s 0 0 (fun q => s0 ≤ q)) (F0 m 90 ls [])
abbrev pX10_installs_85 (D : va_G) (cy : Nat → ClassId) (s0 : Nat) (p : Program) (l : Launch) (e : Env) (s : State) (m : MethodId) (args : Array Value) (below : List Frame) (meth : Method) (c : Code) (r : Unit × Hp) (x0 : Nat) (x1 : Int32) (x2 : Int32) (x3 : Int32) (y0 : Int32) (h : Hp) : Prop := ∀ (H : Heap) (locs : List Loc) (ls : Array Slot) (cells slots : Nat), cells + (0) ≤ 0 → slots + (0) ≤ 0 → WS D cy s0 s h H locs → lv_has ls 6 [(0, .ref x0), (1, .int x1), (2, .int x2), (3, .int x3)] → W p l e rX10_installs s m args below meth c H locs cells slots (MQ below (QQ D cy s0 none r.2) args s 0 0 (fun q => s0 ≤ q)) (F0 m 85 ls [.int y0])
abbrev pX10_installs_84 (D : va_G) (cy : Nat → ClassId) (s0 : Nat) (p : Program) (l : Launch) (e : Env) (s : State) (m : MethodId) (args : Array Value) (below : List Frame) (meth : Method) (c : Code) (r : Unit × Hp) (x0 : Nat) (x1 : Int32) (x2 : Int32) (x3 : Int32) (h : Hp) : Prop := ∀ (H : Heap) (locs : List Loc) (ls : Array Slot) (cells slots : Nat), cells + (0) ≤ 0 → slots + (0) ≤ 0 → WS D cy s0 s h H locs → lv_has ls 6 [(0, .ref x0), (1, .int x1), (2, .int x2), (3, .int x3)] → W p l e rX10_installs s m args below meth c H locs cells slots (MQ below (QQ D cy s0 none r.2) args s 0 0 (fun q => s0 ≤ q)) (F0 m 84 ls [])
abbrev pX10_installs (D : va_G) (cy : Nat → ClassId) (s0 : Nat) (p : Program) (l : Launch) (e : Env) (s : State) (m : MethodId) (args : Array Value) (below : List Frame) (meth : Method) (c : Code) (r : Unit × Hp) (x0 : Nat) (x1 : Int32) (x2 : Int32) (x3 : Int32) (h : Hp) : Prop := ∀ (H : Heap) (locs : List Loc) (ls : Array Slot) (cells slots : Nat), cells + (0) ≤ 0 → slots + (0) ≤ 0 → WS D cy s0 s h H locs → lv_has ls 6 [(0, .ref x0), (1, .int x1), (2, .int x2), (3, .int x3)] → W p l e rX10_installs s m args below meth c H locs cells slots (MQ below (QQ D cy s0 none r.2) args s 0 0 (fun q => s0 ≤ q)) (F0 m 0 ls [])
set_option maxRecDepth 100000 in
set_option maxHeartbeats 4000000 in
theorem bX10_installs_176 {D : va_G} {cy : Nat → ClassId} {s0 : Nat} {p : Program} {l : Launch} {e : Env} {s : State} {m : MethodId} {args : Array Value} {below : List Frame} {meth : Method} {c : Code} (C : CX D cy s0 p s m args meth c cX10_installs 6 RX10 none) (hn : meth.name = "installs") : ∀ (x0 : Nat) (x1 : Int32) (x2 : Int32) (x3 : Int32) (h : Hp) (r : Unit × Hp), fX10_installs_176 x0 x1 x2 x3 h = some r → pX10_installs_176 D cy s0 p l e s m args below meth c r x0 x1 x2 x3 h := by
  intro x0 x1 x2 x3 h ⟨rv, rh⟩ hf H locs ls cells slots hc hs hw hl
  unfold fX10_installs_176 at hf
  have hx := C.1
  have hb := C.2.1
  refine lv_aload_n hx hb dX10_installs_176 rfl (lv_at hl 0 rfl) ?_
  obtain ⟨z1, e1, hf⟩ := ob hf
  refine r_gR C hw e1 ck10 rfl (by decide) w969 dX10_installs_177 ?_
  cases z1 with
  | none =>
    have hf := on_n hf
    cases hf
  | some a2 =>
    have hf := on_s hf
    refine W.eq (g2 := F0 m 180 ls [.ref a2]) rfl ?_
    refine lv_iload_n hx hb dX10_installs_180 rfl (lv_at hl 2 rfl) ?_
    refine lv_aload_n hx hb dX10_installs_181 rfl (lv_at hl 0 rfl) ?_
    obtain ⟨z3, e3, hf⟩ := ob hf
    refine r_gR C hw e3 ck10 rfl (by decide) w982 dX10_installs_182 ?_
    cases z3 with
    | none =>
      have hf := on_n hf
      cases hf
    | some a4 =>
      have hf := on_s hf
      refine W.eq (g2 := F0 m 185 ls [.ref a4, .int x2, .ref a2]) rfl ?_
      refine lv_iload_n hx hb dX10_installs_185 rfl (lv_at hl 1 rfl) ?_
      obtain ⟨z5, e5, hf⟩ := ob hf
      refine r_iald C hw e5 dX10_installs_186 ?_
      obtain ⟨h6, e6, hf⟩ := ob hf
      refine r_iast C hw e6 dX10_installs_187 (fun H locs hw => ?_)
      refine lv_aload_n hx hb dX10_installs_188 rfl (lv_at hl 0 rfl) ?_
      obtain ⟨z7, e7, hf⟩ := ob hf
      refine r_gR C hw e7 ck10 rfl (by decide) w970 dX10_installs_189 ?_
      cases z7 with
      | none =>
        have hf := on_n hf
        cases hf
      | some a8 =>
        have hf := on_s hf
        refine W.eq (g2 := F0 m 192 ls [.ref a8]) rfl ?_
        refine lv_iload_n hx hb dX10_installs_192 rfl (lv_at hl 2 rfl) ?_
        refine lv_aload_n hx hb dX10_installs_193 rfl (lv_at hl 0 rfl) ?_
        obtain ⟨z9, e9, hf⟩ := ob hf
        refine r_gR C hw e9 ck10 rfl (by decide) w982 dX10_installs_194 ?_
        cases z9 with
        | none =>
          have hf := on_n hf
          cases hf
        | some a10 =>
          have hf := on_s hf
          refine W.eq (g2 := F0 m 197 ls [.ref a10, .int x2, .ref a8]) rfl ?_
          refine lv_iload_n hx hb dX10_installs_197 rfl (lv_at hl 1 rfl) ?_
          obtain ⟨z11, e11, hf⟩ := ob hf
          refine r_iald C hw e11 dX10_installs_198 ?_
          obtain ⟨h12, e12, hf⟩ := ob hf
          refine r_iast C hw e12 dX10_installs_199 (fun H locs hw => ?_)
          refine lv_aload_n hx hb dX10_installs_200 rfl (lv_at hl 0 rfl) ?_
          obtain ⟨z13, e13, hf⟩ := ob hf
          refine r_gR C hw e13 ck10 rfl (by decide) w977 dX10_installs_201 ?_
          cases z13 with
          | none =>
            have hf := on_n hf
            cases hf
          | some a14 =>
            have hf := on_s hf
            refine W.eq (g2 := F0 m 204 ls [.ref a14]) rfl ?_
            refine lv_iload_n hx hb dX10_installs_204 rfl (lv_at hl 2 rfl) ?_
            refine lv_dup2_11 hx hb dX10_installs_205 rfl rfl ?_
            obtain ⟨z15, e15, hf⟩ := ob hf
            refine r_iald C hw e15 dX10_installs_206 ?_
            refine lv_iconst (v := (1 : Int32)) hx hb dX10_installs_207 (by decide) ?_
            refine lv_iadd hx hb dX10_installs_208 ?_
            obtain ⟨h16, e16, hf⟩ := ob hf
            refine r_iast C hw e16 dX10_installs_209 (fun H locs hw => ?_)
            refine lv_aload_n hx hb dX10_installs_210 rfl (lv_at hl 0 rfl) ?_
            refine lv_iconst (v := (3 : Int32)) hx hb dX10_installs_211 (by decide) ?_
            refine lv_iload_n hx hb dX10_installs_212 rfl (lv_at hl 2 rfl) ?_
            refine lv_iload_n hx hb dX10_installs_213 rfl (lv_at hl 3 rfl) ?_
            refine lv_aload_n hx hb dX10_installs_214 rfl (lv_at hl 0 rfl) ?_
            obtain ⟨z17, e17, hf⟩ := ob hf
            refine r_gR C hw e17 ck10 rfl (by decide) w982 dX10_installs_215 ?_
            cases z17 with
            | none =>
              have hf := on_n hf
              cases hf
            | some a18 =>
              have hf := on_s hf
              refine W.eq (g2 := F0 m 218 ls [.ref a18, .int x3, .int x2, .int (3 : Int32), .ref x0]) rfl ?_
              refine lv_iload_n hx hb dX10_installs_218 rfl (lv_at hl 1 rfl) ?_
              obtain ⟨z19, e19, hf⟩ := ob hf
              refine r_iald C hw e19 dX10_installs_219 ?_
              obtain ⟨kb20, hf⟩ := ig hf
              obtain ⟨z20, h20, e20, hf⟩ := ob2 hf
              refine r_callV C hw (mX10_answer e20) kXX10_answer ck10 rfl kb20 w1164 w1166 v42 ⟨Nat.le_of_ble_eq_true rfl, Nat.le_of_ble_eq_true rfl⟩ rfl hl.1 (rest := []) rfl (Nat.le_of_ble_eq_true rfl) dX10_installs_220 (mc := 0) (ms := 0) rfl rfl ⟨by show _ + 0 ≤ 0; omega, by show _ + 0 ≤ 0; omega⟩ (fun H locs hw => ?_)
              refine W.eq (g2 := F0 m 223 ls []) rfl ?_
              obtain ⟨rfl, rfl⟩ := sp hf
              exact r_vret C hw rfl (by omega) (by omega) dX10_installs_223
set_option maxRecDepth 100000 in
set_option maxHeartbeats 4000000 in
theorem bX10_installs_90_body {D : va_G} {cy : Nat → ClassId} {s0 : Nat} {p : Program} {l : Launch} {e : Env} {s : State} {m : MethodId} {args : Array Value} {below : List Frame} {meth : Method} {c : Code} (C : CX D cy s0 p s m args meth c cX10_installs 6 RX10 none) (hn : meth.name = "installs") {k90 : Nat → Int32 → Int32 → Int32 → Int32 → Int32 → Hp → Option (Unit × Hp)} (hk90 : ∀ (x0 : Nat) (x1 : Int32) (x2 : Int32) (x3 : Int32) (x4 : Int32) (x5 : Int32) (h : Hp) (r : Unit × Hp), k90 x0 x1 x2 x3 x4 x5 h = some r → pX10_installs_90 D cy s0 p l e s m args below meth c r x0 x1 x2 x3 x4 x5 h) : ∀ (x0 : Nat) (x1 : Int32) (x2 : Int32) (x3 : Int32) (x4 : Int32) (x5 : Int32) (h : Hp) (r : Unit × Hp), fX10_installs_90_body k90 x0 x1 x2 x3 x4 x5 h = some r → pX10_installs_90 D cy s0 p l e s m args below meth c r x0 x1 x2 x3 x4 x5 h := by
  intro x0 x1 x2 x3 x4 x5 h ⟨rv, rh⟩ hf H locs ls cells slots hc hs hw hl
  unfold fX10_installs_90_body at hf
  have hx := C.1
  have hb := C.2.1
  refine lv_iload hx hb dX10_installs_90 (lv_at hl 5 rfl) ?_
  refine lv_aload_n hx hb dX10_installs_92 rfl (lv_at hl 0 rfl) ?_
  obtain ⟨z1, e1, hf⟩ := ob hf
  refine r_gR C hw e1 ck10 rfl (by decide) w982 dX10_installs_93 ?_
  cases z1 with
  | none =>
    have hf := on_n hf
    cases hf
  | some a2 =>
    have hf := on_s hf
    refine W.eq (g2 := F0 m 96 ls [.ref a2, .int x5]) rfl ?_
    refine lv_iload_n hx hb dX10_installs_96 rfl (lv_at hl 1 rfl) ?_
    obtain ⟨z3, e3, hf⟩ := ob hf
    refine r_iald C hw e3 dX10_installs_97 ?_
    refine lv_iconst (v := (1 : Int32)) hx hb dX10_installs_98 (by decide) ?_
    refine lv_iadd hx hb dX10_installs_99 ?_
    refine lv_bipush (v := (8 : Int32)) hx hb dX10_installs_100 (by decide) ?_
    refine lv_imul hx hb dX10_installs_102 ?_
    refine lv_icmp_ge (tgt := 147) hx hb dX10_installs_103 (by decide) (fun c4 => ?_) (fun c4 => ?_)
    · have hf := ip hf c4
      refine lv_aload_n hx hb dX10_installs_147 rfl (lv_at hl 0 rfl) ?_
      obtain ⟨z5, e5, hf⟩ := ob hf
      refine r_gR C hw e5 ck10 rfl (by decide) w967 dX10_installs_148 ?_
      cases z5 with
      | none =>
        have hf := on_n hf
        cases hf
      | some a6 =>
        have hf := on_s hf
        refine W.eq (g2 := F0 m 151 ls [.ref a6]) rfl ?_
        refine lv_iload_n hx hb dX10_installs_151 rfl (lv_at hl 2 rfl) ?_
        refine lv_aload_n hx hb dX10_installs_152 rfl (lv_at hl 0 rfl) ?_
        obtain ⟨z7, e7, hf⟩ := ob hf
        refine r_gR C hw e7 ck10 rfl (by decide) w982 dX10_installs_153 ?_
        cases z7 with
        | none =>
          have hf := on_n hf
          cases hf
        | some a8 =>
          have hf := on_s hf
          refine W.eq (g2 := F0 m 156 ls [.ref a8, .int x2, .ref a6]) rfl ?_
          refine lv_iload_n hx hb dX10_installs_156 rfl (lv_at hl 1 rfl) ?_
          obtain ⟨z9, e9, hf⟩ := ob hf
          refine r_iald C hw e9 dX10_installs_157 ?_
          obtain ⟨h10, e10, hf⟩ := ob hf
          refine r_iast C hw e10 dX10_installs_158 (fun H locs hw => ?_)
          refine lv_iload hx hb dX10_installs_159 (lv_at hl 4 rfl) ?_
          refine lv_if_ne (tgt := 176) hx hb dX10_installs_161 (by decide) (fun c11 => ?_) (fun c11 => ?_)
          · have hf := ie hf c11
            exact bX10_installs_176 C hn _ _ _ _ _ _ hf _ _ _ _ _ (by omega) (by omega) hw (lv_sub hl [0, 1, 2, 3] rfl)
          · have hf := ip hf c11
            refine lv_aload_n hx hb dX10_installs_164 rfl (lv_at hl 0 rfl) ?_
            obtain ⟨z12, e12, hf⟩ := ob hf
            refine r_gR C hw e12 ck10 rfl (by decide) w968 dX10_installs_165 ?_
            cases z12 with
            | none =>
              have hf := on_n hf
              cases hf
            | some a13 =>
              have hf := on_s hf
              refine W.eq (g2 := F0 m 168 ls [.ref a13]) rfl ?_
              refine lv_iload_n hx hb dX10_installs_168 rfl (lv_at hl 2 rfl) ?_
              refine lv_aload_n hx hb dX10_installs_169 rfl (lv_at hl 0 rfl) ?_
              obtain ⟨z14, e14, hf⟩ := ob hf
              refine r_gR C hw e14 ck10 rfl (by decide) w982 dX10_installs_170 ?_
              cases z14 with
              | none =>
                have hf := on_n hf
                cases hf
              | some a15 =>
                have hf := on_s hf
                refine W.eq (g2 := F0 m 173 ls [.ref a15, .int x2, .ref a13]) rfl ?_
                refine lv_iload_n hx hb dX10_installs_173 rfl (lv_at hl 1 rfl) ?_
                obtain ⟨z16, e16, hf⟩ := ob hf
                refine r_iald C hw e16 dX10_installs_174 ?_
                obtain ⟨h17, e17, hf⟩ := ob hf
                refine r_iast C hw e17 dX10_installs_175 (fun H locs hw => ?_)
                exact bX10_installs_176 C hn _ _ _ _ _ _ hf _ _ _ _ _ (by omega) (by omega) hw (lv_sub hl [0, 1, 2, 3] rfl)
    · have hf := ie hf c4
      refine lv_aload_n hx hb dX10_installs_106 rfl (lv_at hl 0 rfl) ?_
      obtain ⟨z24, e24, hf⟩ := ob hf
      refine r_gR C hw e24 ck10 rfl (by decide) w976 dX10_installs_107 ?_
      cases z24 with
      | none =>
        have hf := on_n hf
        cases hf
      | some a25 =>
        have hf := on_s hf
        refine W.eq (g2 := F0 m 110 ls [.ref a25]) rfl ?_
        refine lv_aload_n hx hb dX10_installs_110 rfl (lv_at hl 0 rfl) ?_
        refine lv_iload_n hx hb dX10_installs_111 rfl (lv_at hl 2 rfl) ?_
        refine lv_iconst (v := (0 : Int32)) hx hb dX10_installs_112 (by decide) ?_
        obtain ⟨kb26, hf⟩ := ig hf
        obtain ⟨z26, h26, e26, hf⟩ := ob2 hf
        refine r_callV C hw (mX10_at e26) kXX10_at ck10 rfl kb26 w1152 w1154 v40 ⟨Nat.le_of_ble_eq_true rfl, Nat.le_of_ble_eq_true rfl⟩ rfl hl.1 (rest := [.ref a25]) rfl (Nat.le_of_ble_eq_true rfl) dX10_installs_113 (mc := 0) (ms := 0) rfl rfl ⟨by show _ + 0 ≤ 0; omega, by show _ + 0 ≤ 0; omega⟩ (fun H locs hw => ?_)
        refine W.eq (g2 := F0 m 116 ls [.int z26, .ref a25]) rfl ?_
        refine lv_iload hx hb dX10_installs_116 (lv_at hl 5 rfl) ?_
        refine lv_iadd hx hb dX10_installs_118 ?_
        refine lv_aload_n hx hb dX10_installs_119 rfl (lv_at hl 0 rfl) ?_
        obtain ⟨z27, e27, hf⟩ := ob hf
        refine r_gR C hw e27 ck10 rfl (by decide) w988 dX10_installs_120 ?_
        cases z27 with
        | none =>
          have hf := on_n hf
          cases hf
        | some a28 =>
          have hf := on_s hf
          refine W.eq (g2 := F0 m 123 ls [.ref a28, .int (z26 + x5), .ref a25]) rfl ?_
          refine lv_aload_n hx hb dX10_installs_123 rfl (lv_at hl 0 rfl) ?_
          obtain ⟨z29, e29, hf⟩ := ob hf
          refine r_gR C hw e29 ck10 rfl (by decide) w989 dX10_installs_124 ?_
          cases z29 with
          | none =>
            have hf := on_n hf
            cases hf
          | some a30 =>
            have hf := on_s hf
            refine W.eq (g2 := F0 m 127 ls [.ref a30, .ref a28, .int (z26 + x5), .ref a25]) rfl ?_
            refine lv_iload_n hx hb dX10_installs_127 rfl (lv_at hl 1 rfl) ?_
            obtain ⟨z31, e31, hf⟩ := ob hf
            refine r_iald C hw e31 dX10_installs_128 ?_
            refine lv_sipush (v := (1201 : Int32)) hx hb dX10_installs_129 (by decide) ?_
            refine lv_imul hx hb dX10_installs_132 ?_
            refine lv_bipush (v := (8 : Int32)) hx hb dX10_installs_133 (by decide) ?_
            refine lv_imul hx hb dX10_installs_135 ?_
            refine lv_iload hx hb dX10_installs_136 (lv_at hl 5 rfl) ?_
            refine lv_iadd hx hb dX10_installs_138 ?_
            obtain ⟨z32, e32, hf⟩ := ob hf
            refine r_iald C hw e32 dX10_installs_139 ?_
            obtain ⟨h33, e33, hf⟩ := ob hf
            refine r_iast C hw e33 dX10_installs_140 (fun H locs hw => ?_)
            refine lv_iinc (v := (x5 + (1 : Int32))) (lv' := [(5, .int (x5 + (1 : Int32))), (0, .ref x0), (1, .int x1), (2, .int x2), (3, .int x3), (4, .int x4)]) hx hb dX10_installs_141 hl (k := 5) rfl rfl (by decide) rfl (fun ls hl => ?_)
            refine lv_goto (tgt := 90) hx hb dX10_installs_144 (by decide) ?_
            exact hk90 _ _ _ _ _ _ _ _ hf _ _ _ _ _ (by omega) (by omega) hw (lv_sub hl [1, 2, 3, 4, 5, 0] rfl)
set_option maxRecDepth 100000 in
set_option maxHeartbeats 4000000 in
theorem bX10_installs_90 {D : va_G} {cy : Nat → ClassId} {s0 : Nat} {p : Program} {l : Launch} {e : Env} {s : State} {m : MethodId} {args : Array Value} {below : List Frame} {meth : Method} {c : Code} (C : CX D cy s0 p s m args meth c cX10_installs 6 RX10 none) (hn : meth.name = "installs") : ∀ (n : Nat) (x0 : Nat) (x1 : Int32) (x2 : Int32) (x3 : Int32) (x4 : Int32) (x5 : Int32) (h : Hp) (r : Unit × Hp), fX10_installs_90 n x0 x1 x2 x3 x4 x5 h = some r → pX10_installs_90 D cy s0 p l e s m args below meth c r x0 x1 x2 x3 x4 x5 h := by
  intro n
  induction n with
  | zero => intro x0 x1 x2 x3 x4 x5 h r hf; exact absurd hf (fun q => by cases q)
  | succ n ih => exact bX10_installs_90_body C hn ih
set_option maxRecDepth 100000 in
set_option maxHeartbeats 4000000 in
theorem bX10_installs_85 {D : va_G} {cy : Nat → ClassId} {s0 : Nat} {p : Program} {l : Launch} {e : Env} {s : State} {m : MethodId} {args : Array Value} {below : List Frame} {meth : Method} {c : Code} (C : CX D cy s0 p s m args meth c cX10_installs 6 RX10 none) (hn : meth.name = "installs") : ∀ (x0 : Nat) (x1 : Int32) (x2 : Int32) (x3 : Int32) (y0 : Int32) (h : Hp) (r : Unit × Hp), fX10_installs_85 x0 x1 x2 x3 y0 h = some r → pX10_installs_85 D cy s0 p l e s m args below meth c r x0 x1 x2 x3 y0 h := by
  intro x0 x1 x2 x3 y0 h ⟨rv, rh⟩ hf H locs ls cells slots hc hs hw hl
  unfold fX10_installs_85 at hf
  have hx := C.1
  have hb := C.2.1
  refine lv_istore (lv' := [(4, .int y0), (0, .ref x0), (1, .int x1), (2, .int x2), (3, .int x3)]) hx hb dX10_installs_85 hl (by decide) rfl (fun ls hl => ?_)
  refine lv_iconst (v := (0 : Int32)) hx hb dX10_installs_87 (by decide) ?_
  refine lv_istore (lv' := [(5, .int (0 : Int32)), (4, .int y0), (0, .ref x0), (1, .int x1), (2, .int x2), (3, .int x3)]) hx hb dX10_installs_88 hl (by decide) rfl (fun ls hl => ?_)
  exact bX10_installs_90 C hn LF _ _ _ _ _ _ _ _ hf _ _ _ _ _ (by omega) (by omega) hw (lv_sub hl [2, 3, 4, 5, 1, 0] rfl)
set_option maxRecDepth 100000 in
set_option maxHeartbeats 4000000 in
theorem bX10_installs_84 {D : va_G} {cy : Nat → ClassId} {s0 : Nat} {p : Program} {l : Launch} {e : Env} {s : State} {m : MethodId} {args : Array Value} {below : List Frame} {meth : Method} {c : Code} (C : CX D cy s0 p s m args meth c cX10_installs 6 RX10 none) (hn : meth.name = "installs") : ∀ (x0 : Nat) (x1 : Int32) (x2 : Int32) (x3 : Int32) (h : Hp) (r : Unit × Hp), fX10_installs_84 x0 x1 x2 x3 h = some r → pX10_installs_84 D cy s0 p l e s m args below meth c r x0 x1 x2 x3 h := by
  intro x0 x1 x2 x3 h ⟨rv, rh⟩ hf H locs ls cells slots hc hs hw hl
  unfold fX10_installs_84 at hf
  have hx := C.1
  have hb := C.2.1
  refine lv_iconst (v := (0 : Int32)) hx hb dX10_installs_84 (by decide) ?_
  exact bX10_installs_85 C hn _ _ _ _ _ _ _ hf _ _ _ _ _ (by omega) (by omega) hw (lv_sub hl [0, 1, 2, 3] rfl)
set_option maxRecDepth 100000 in
set_option maxHeartbeats 4000000 in
theorem bX10_installs {D : va_G} {cy : Nat → ClassId} {s0 : Nat} {p : Program} {l : Launch} {e : Env} {s : State} {m : MethodId} {args : Array Value} {below : List Frame} {meth : Method} {c : Code} (C : CX D cy s0 p s m args meth c cX10_installs 6 RX10 none) (hn : meth.name = "installs") : ∀ (x0 : Nat) (x1 : Int32) (x2 : Int32) (x3 : Int32) (h : Hp) (r : Unit × Hp), fX10_installs x0 x1 x2 x3 h = some r → pX10_installs D cy s0 p l e s m args below meth c r x0 x1 x2 x3 h := by
  intro x0 x1 x2 x3 h ⟨rv, rh⟩ hf H locs ls cells slots hc hs hw hl
  unfold fX10_installs at hf
  have hx := C.1
  have hb := C.2.1
  refine lv_aload_n hx hb dX10_installs_0 rfl (lv_at hl 0 rfl) ?_
  obtain ⟨z1, e1, hf⟩ := ob hf
  refine r_gR C hw e1 ck10 rfl (by decide) w971 dX10_installs_1 ?_
  cases z1 with
  | none =>
    have hf := on_n hf
    cases hf
  | some a2 =>
    have hf := on_s hf
    refine W.eq (g2 := F0 m 4 ls [.ref a2]) rfl ?_
    refine lv_iload_n hx hb dX10_installs_4 rfl (lv_at hl 2 rfl) ?_
    refine lv_iconst (v := (0 : Int32)) hx hb dX10_installs_5 (by decide) ?_
    obtain ⟨h3, e3, hf⟩ := ob hf
    refine r_iast C hw e3 dX10_installs_6 (fun H locs hw => ?_)
    refine lv_aload_n hx hb dX10_installs_7 rfl (lv_at hl 0 rfl) ?_
    obtain ⟨z4, e4, hf⟩ := ob hf
    refine r_gR C hw e4 ck10 rfl (by decide) w969 dX10_installs_8 ?_
    cases z4 with
    | none =>
      have hf := on_n hf
      cases hf
    | some a5 =>
      have hf := on_s hf
      refine W.eq (g2 := F0 m 11 ls [.ref a5]) rfl ?_
      refine lv_iload_n hx hb dX10_installs_11 rfl (lv_at hl 2 rfl) ?_
      obtain ⟨z6, e6, hf⟩ := ob hf
      refine r_iald C hw e6 dX10_installs_12 ?_
      refine lv_aload_n hx hb dX10_installs_13 rfl (lv_at hl 0 rfl) ?_
      obtain ⟨z7, e7, hf⟩ := ob hf
      refine r_gR C hw e7 ck10 rfl (by decide) w982 dX10_installs_14 ?_
      cases z7 with
      | none =>
        have hf := on_n hf
        cases hf
      | some a8 =>
        have hf := on_s hf
        refine W.eq (g2 := F0 m 17 ls [.ref a8, .int z6]) rfl ?_
        refine lv_iload_n hx hb dX10_installs_17 rfl (lv_at hl 1 rfl) ?_
        obtain ⟨z9, e9, hf⟩ := ob hf
        refine r_iald C hw e9 dX10_installs_18 ?_
        refine lv_icmp_lt (tgt := 36) hx hb dX10_installs_19 (by decide) (fun c10 => ?_) (fun c10 => ?_)
        · have hf := ip hf c10
          refine lv_aload_n hx hb dX10_installs_36 rfl (lv_at hl 0 rfl) ?_
          refine lv_iload_n hx hb dX10_installs_37 rfl (lv_at hl 2 rfl) ?_
          obtain ⟨kb11, hf⟩ := ig hf
          obtain ⟨z11, h11, e11, hf⟩ := ob2 hf
          refine r_callV C hw (mX10_record e11) kXX10_record ck10 rfl kb11 w1136 w1138 v36 ⟨Nat.le_of_ble_eq_true rfl, Nat.le_of_ble_eq_true rfl⟩ rfl hl.1 (rest := []) rfl (Nat.le_of_ble_eq_true rfl) dX10_installs_38 (mc := 0) (ms := 0) rfl rfl ⟨by show _ + 0 ≤ 0; omega, by show _ + 0 ≤ 0; omega⟩ (fun H locs hw => ?_)
          refine W.eq (g2 := F0 m 41 ls [.int z11]) rfl ?_
          refine lv_if_ne (tgt := 45) hx hb dX10_installs_41 (by decide) (fun c12 => ?_) (fun c12 => ?_)
          · have hf := ie hf c12
            refine lv_aload_n hx hb dX10_installs_45 rfl (lv_at hl 0 rfl) ?_
            obtain ⟨z13, e13, hf⟩ := ob hf
            refine r_gR C hw e13 ck10 rfl (by decide) w982 dX10_installs_46 ?_
            cases z13 with
            | none =>
              have hf := on_n hf
              cases hf
            | some a14 =>
              have hf := on_s hf
              refine W.eq (g2 := F0 m 49 ls [.ref a14]) rfl ?_
              refine lv_iload_n hx hb dX10_installs_49 rfl (lv_at hl 1 rfl) ?_
              obtain ⟨z15, e15, hf⟩ := ob hf
              refine r_iald C hw e15 dX10_installs_50 ?_
              refine lv_aload_n hx hb dX10_installs_51 rfl (lv_at hl 0 rfl) ?_
              obtain ⟨z16, e16, hf⟩ := ob hf
              refine r_gR C hw e16 ck10 rfl (by decide) w968 dX10_installs_52 ?_
              cases z16 with
              | none =>
                have hf := on_n hf
                cases hf
              | some a17 =>
                have hf := on_s hf
                refine W.eq (g2 := F0 m 55 ls [.ref a17, .int z15]) rfl ?_
                refine lv_iload_n hx hb dX10_installs_55 rfl (lv_at hl 2 rfl) ?_
                obtain ⟨z18, e18, hf⟩ := ob hf
                refine r_iald C hw e18 dX10_installs_56 ?_
                refine lv_icmp_gt (tgt := 84) hx hb dX10_installs_57 (by decide) (fun c19 => ?_) (fun c19 => ?_)
                · have hf := ip hf c19
                  exact bX10_installs_84 C hn _ _ _ _ _ _ hf _ _ _ _ _ (by omega) (by omega) hw (lv_sub hl [0, 1, 2, 3] rfl)
                · have hf := ie hf c19
                  refine lv_aload_n hx hb dX10_installs_60 rfl (lv_at hl 0 rfl) ?_
                  refine lv_iload_n hx hb dX10_installs_61 rfl (lv_at hl 2 rfl) ?_
                  refine lv_aload_n hx hb dX10_installs_62 rfl (lv_at hl 0 rfl) ?_
                  obtain ⟨z20, e20, hf⟩ := ob hf
                  refine r_gR C hw e20 ck10 rfl (by decide) w982 dX10_installs_63 ?_
                  cases z20 with
                  | none =>
                    have hf := on_n hf
                    cases hf
                  | some a21 =>
                    have hf := on_s hf
                    refine W.eq (g2 := F0 m 66 ls [.ref a21, .int x2, .ref x0]) rfl ?_
                    refine lv_iload_n hx hb dX10_installs_66 rfl (lv_at hl 1 rfl) ?_
                    obtain ⟨z22, e22, hf⟩ := ob hf
                    refine r_iald C hw e22 dX10_installs_67 ?_
                    obtain ⟨kb23, hf⟩ := ig hf
                    obtain ⟨z23, h23, e23, hf⟩ := ob2 hf
                    refine r_callV C hw (mX10_termAt e23) kXX10_termAt ck10 rfl kb23 w1148 w1150 v39 ⟨Nat.le_of_ble_eq_true rfl, Nat.le_of_ble_eq_true rfl⟩ rfl hl.1 (rest := []) rfl (Nat.le_of_ble_eq_true rfl) dX10_installs_68 (mc := 0) (ms := 0) rfl rfl ⟨by show _ + 0 ≤ 0; omega, by show _ + 0 ≤ 0; omega⟩ (fun H locs hw => ?_)
                    refine W.eq (g2 := F0 m 71 ls [.int z23]) rfl ?_
                    refine lv_aload_n hx hb dX10_installs_71 rfl (lv_at hl 0 rfl) ?_
                    obtain ⟨z24, e24, hf⟩ := ob hf
                    refine r_gR C hw e24 ck10 rfl (by decide) w983 dX10_installs_72 ?_
                    cases z24 with
                    | none =>
                      have hf := on_n hf
                      cases hf
                    | some a25 =>
                      have hf := on_s hf
                      refine W.eq (g2 := F0 m 75 ls [.ref a25, .int z23]) rfl ?_
                      refine lv_iload_n hx hb dX10_installs_75 rfl (lv_at hl 1 rfl) ?_
                      obtain ⟨z26, e26, hf⟩ := ob hf
                      refine r_iald C hw e26 dX10_installs_76 ?_
                      refine lv_icmp_ne (tgt := 84) hx hb dX10_installs_77 (by decide) (fun c27 => ?_) (fun c27 => ?_)
                      · have hf := ie hf c27
                        exact bX10_installs_84 C hn _ _ _ _ _ _ hf _ _ _ _ _ (by omega) (by omega) hw (lv_sub hl [0, 1, 2, 3] rfl)
                      · have hf := ip hf c27
                        refine lv_iconst (v := (1 : Int32)) hx hb dX10_installs_80 (by decide) ?_
                        refine lv_goto (tgt := 85) hx hb dX10_installs_81 (by decide) ?_
                        exact bX10_installs_85 C hn _ _ _ _ _ _ _ hf _ _ _ _ _ (by omega) (by omega) hw (lv_sub hl [0, 1, 2, 3] rfl)
          · have hf := ip hf c12
            obtain ⟨rfl, rfl⟩ := sp hf
            exact r_vret C hw rfl (by omega) (by omega) dX10_installs_44
        · have hf := ie hf c10
          refine lv_aload_n hx hb dX10_installs_22 rfl (lv_at hl 0 rfl) ?_
          refine lv_iconst (v := (3 : Int32)) hx hb dX10_installs_23 (by decide) ?_
          refine lv_iload_n hx hb dX10_installs_24 rfl (lv_at hl 2 rfl) ?_
          refine lv_iload_n hx hb dX10_installs_25 rfl (lv_at hl 3 rfl) ?_
          refine lv_aload_n hx hb dX10_installs_26 rfl (lv_at hl 0 rfl) ?_
          obtain ⟨z28, e28, hf⟩ := ob hf
          refine r_gR C hw e28 ck10 rfl (by decide) w969 dX10_installs_27 ?_
          cases z28 with
          | none =>
            have hf := on_n hf
            cases hf
          | some a29 =>
            have hf := on_s hf
            refine W.eq (g2 := F0 m 30 ls [.ref a29, .int x3, .int x2, .int (3 : Int32), .ref x0]) rfl ?_
            refine lv_iload_n hx hb dX10_installs_30 rfl (lv_at hl 2 rfl) ?_
            obtain ⟨z30, e30, hf⟩ := ob hf
            refine r_iald C hw e30 dX10_installs_31 ?_
            obtain ⟨kb31, hf⟩ := ig hf
            obtain ⟨z31, h31, e31, hf⟩ := ob2 hf
            refine r_callV C hw (mX10_answer e31) kXX10_answer ck10 rfl kb31 w1164 w1166 v42 ⟨Nat.le_of_ble_eq_true rfl, Nat.le_of_ble_eq_true rfl⟩ rfl hl.1 (rest := []) rfl (Nat.le_of_ble_eq_true rfl) dX10_installs_32 (mc := 0) (ms := 0) rfl rfl ⟨by show _ + 0 ≤ 0; omega, by show _ + 0 ≤ 0; omega⟩ (fun H locs hw => ?_)
            refine W.eq (g2 := F0 m 35 ls []) rfl ?_
            obtain ⟨rfl, rfl⟩ := sp hf
            exact r_vret C hw rfl (by omega) (by omega) dX10_installs_35
theorem kXX10_installs : MK yX10_installs cX10_installs 6 none 3 := ⟨w1205, w8, by decide +kernel⟩
theorem mX10_installs {D : va_G} {cy : Nat → ClassId} {s0 : Nat} {l : Launch} {x0 : Nat} {x1 : Int32} {x2 : Int32} {x3 : Int32} {h : Hp} {v : Unit} {h1 : Hp} (hf : fX10_installs x0 x1 x2 x3 h = some (v, h1)) : MT D cy s0 l yX10_installs cX10_installs 6 none rX10_installs [.ref x0, .int x1, .int x2, .int x3] h none h1 := by
  refine MT.of (by decide +kernel) (Nat.le_of_ble_eq_true rfl) ?_
  intro p e s m below meth c H locs ls C hn hw hl
  exact bX10_installs C hn _ _ _ _ _ _ hf _ _ _ _ _ (Nat.le_of_ble_eq_true rfl) (Nat.le_of_ble_eq_true rfl) hw hl
abbrev rX10_got : Room := { frames := 5, cells := 0, slots := 0, locals := 119 }
abbrev pX10_got_294 (D : va_G) (cy : Nat → ClassId) (s0 : Nat) (p : Program) (l : Launch) (e : Env) (s : State) (m : MethodId) (args : Array Value) (below : List Frame) (meth : Method) (c : Code) (r : Unit × Hp) (x0 : Nat) (x2 : Int32) (x3 : Int32) (h : Hp) : Prop := ∀ (H : Heap) (locs : List Loc) (ls : Array Slot) (cells slots : Nat), cells + (0) ≤ 0 → slots + (0) ≤ 0 → WS D cy s0 s h H locs → lv_has ls 4 [(0, .ref x0), (2, .int x2), (3, .int x3)] → W p l e rX10_got s m args below meth c H locs cells slots (MQ below (QQ D cy s0 none r.2) args s 0 0 (fun q => s0 ≤ q)) (F0 m 294 ls [])
abbrev pX10_got_102 (D : va_G) (cy : Nat → ClassId) (s0 : Nat) (p : Program) (l : Launch) (e : Env) (s : State) (m : MethodId) (args : Array Value) (below : List Frame) (meth : Method) (c : Code) (r : Unit × Hp) (x0 : Nat) (x2 : Int32) (x3 : Int32) (h : Hp) : Prop := ∀ (H : Heap) (locs : List Loc) (ls : Array Slot) (cells slots : Nat), cells + (0) ≤ 0 → slots + (0) ≤ 0 → WS D cy s0 s h H locs → lv_has ls 4 [(0, .ref x0), (2, .int x2), (3, .int x3)] → W p l e rX10_got s m args below meth c H locs cells slots (MQ below (QQ D cy s0 none r.2) args s 0 0 (fun q => s0 ≤ q)) (F0 m 102 ls [])
abbrev pX10_got_82 (D : va_G) (cy : Nat → ClassId) (s0 : Nat) (p : Program) (l : Launch) (e : Env) (s : State) (m : MethodId) (args : Array Value) (below : List Frame) (meth : Method) (c : Code) (r : Unit × Hp) (x0 : Nat) (x1 : Int32) (x2 : Int32) (x3 : Int32) (h : Hp) : Prop := ∀ (H : Heap) (locs : List Loc) (ls : Array Slot) (cells slots : Nat), cells + (0) ≤ 0 → slots + (0) ≤ 0 → WS D cy s0 s h H locs → lv_has ls 4 [(0, .ref x0), (1, .int x1), (2, .int x2), (3, .int x3)] → W p l e rX10_got s m args below meth c H locs cells slots (MQ below (QQ D cy s0 none r.2) args s 0 0 (fun q => s0 ≤ q)) (F0 m 82 ls [])
abbrev pX10_got_50 (D : va_G) (cy : Nat → ClassId) (s0 : Nat) (p : Program) (l : Launch) (e : Env) (s : State) (m : MethodId) (args : Array Value) (below : List Frame) (meth : Method) (c : Code) (r : Unit × Hp) (x0 : Nat) (x1 : Int32) (x2 : Int32) (x3 : Int32) (h : Hp) : Prop := ∀ (H : Heap) (locs : List Loc) (ls : Array Slot) (cells slots : Nat), cells + (0) ≤ 0 → slots + (0) ≤ 0 → WS D cy s0 s h H locs → lv_has ls 4 [(0, .ref x0), (1, .int x1), (2, .int x2), (3, .int x3)] → W p l e rX10_got s m args below meth c H locs cells slots (MQ below (QQ D cy s0 none r.2) args s 0 0 (fun q => s0 ≤ q)) (F0 m 50 ls [])
abbrev pX10_got (D : va_G) (cy : Nat → ClassId) (s0 : Nat) (p : Program) (l : Launch) (e : Env) (s : State) (m : MethodId) (args : Array Value) (below : List Frame) (meth : Method) (c : Code) (r : Unit × Hp) (x0 : Nat) (x1 : Int32) (x2 : Int32) (x3 : Int32) (h : Hp) : Prop := ∀ (H : Heap) (locs : List Loc) (ls : Array Slot) (cells slots : Nat), cells + (0) ≤ 0 → slots + (0) ≤ 0 → WS D cy s0 s h H locs → lv_has ls 4 [(0, .ref x0), (1, .int x1), (2, .int x2), (3, .int x3)] → W p l e rX10_got s m args below meth c H locs cells slots (MQ below (QQ D cy s0 none r.2) args s 0 0 (fun q => s0 ≤ q)) (F0 m 0 ls [])
set_option maxRecDepth 100000 in
set_option maxHeartbeats 4000000 in
theorem bX10_got_294 {D : va_G} {cy : Nat → ClassId} {s0 : Nat} {p : Program} {l : Launch} {e : Env} {s : State} {m : MethodId} {args : Array Value} {below : List Frame} {meth : Method} {c : Code} (C : CX D cy s0 p s m args meth c cX10_got 4 RX10 none) (hn : meth.name = "got") : ∀ (x0 : Nat) (x2 : Int32) (x3 : Int32) (h : Hp) (r : Unit × Hp), fX10_got_294 x0 x2 x3 h = some r → pX10_got_294 D cy s0 p l e s m args below meth c r x0 x2 x3 h := by
  intro x0 x2 x3 h ⟨rv, rh⟩ hf H locs ls cells slots hc hs hw hl
  unfold fX10_got_294 at hf
  have hx := C.1
  have hb := C.2.1
  refine lv_aload_n hx hb dX10_got_294 rfl (lv_at hl 0 rfl) ?_
  refine lv_iload_n hx hb dX10_got_295 rfl (lv_at hl 1 rfl) ?_
  refine lv_iload_n hx hb dX10_got_296 rfl (lv_at hl 2 rfl) ?_
  obtain ⟨kb1, hf⟩ := ig hf
  obtain ⟨z1, h1, e1, hf⟩ := ob2 hf
  refine r_callV C hw (mX10_send e1) kXX10_send ck10 rfl kb1 w1188 w1190 v48 ⟨Nat.le_of_ble_eq_true rfl, Nat.le_of_ble_eq_true rfl⟩ rfl hl.1 (rest := []) rfl (Nat.le_of_ble_eq_true rfl) dX10_got_297 (mc := 0) (ms := 0) rfl rfl ⟨by show _ + 0 ≤ 0; omega, by show _ + 0 ≤ 0; omega⟩ (fun H locs hw => ?_)
  refine W.eq (g2 := F0 m 300 ls []) rfl ?_
  refine lv_goto (tgt := 310) hx hb dX10_got_300 (by decide) ?_
  obtain ⟨rfl, rfl⟩ := sp hf
  exact r_vret C hw rfl (by omega) (by omega) dX10_got_310
set_option maxRecDepth 100000 in
set_option maxHeartbeats 4000000 in
theorem bX10_got_102 {D : va_G} {cy : Nat → ClassId} {s0 : Nat} {p : Program} {l : Launch} {e : Env} {s : State} {m : MethodId} {args : Array Value} {below : List Frame} {meth : Method} {c : Code} (C : CX D cy s0 p s m args meth c cX10_got 4 RX10 none) (hn : meth.name = "got") : ∀ (x0 : Nat) (x2 : Int32) (x3 : Int32) (h : Hp) (r : Unit × Hp), fX10_got_102 x0 x2 x3 h = some r → pX10_got_102 D cy s0 p l e s m args below meth c r x0 x2 x3 h := by
  intro x0 x2 x3 h ⟨rv, rh⟩ hf H locs ls cells slots hc hs hw hl
  unfold fX10_got_102 at hf
  have hx := C.1
  have hb := C.2.1
  refine lv_aload_n hx hb dX10_got_102 rfl (lv_at hl 0 rfl) ?_
  refine lv_iconst (v := (4 : Int32)) hx hb dX10_got_103 (by decide) ?_
  refine lv_iload_n hx hb dX10_got_104 rfl (lv_at hl 1 rfl) ?_
  refine lv_iload_n hx hb dX10_got_105 rfl (lv_at hl 2 rfl) ?_
  refine lv_aload_n hx hb dX10_got_106 rfl (lv_at hl 0 rfl) ?_
  obtain ⟨z1, e1, hf⟩ := ob hf
  refine r_gR C hw e1 ck10 rfl (by decide) w968 dX10_got_107 ?_
  cases z1 with
  | none =>
    have hf := on_n hf
    cases hf
  | some a2 =>
    have hf := on_s hf
    refine W.eq (g2 := F0 m 110 ls [.ref a2, .int x3, .int x2, .int (4 : Int32), .ref x0]) rfl ?_
    refine lv_iload_n hx hb dX10_got_110 rfl (lv_at hl 1 rfl) ?_
    obtain ⟨z3, e3, hf⟩ := ob hf
    refine r_iald C hw e3 dX10_got_111 ?_
    obtain ⟨kb4, hf⟩ := ig hf
    obtain ⟨z4, h4, e4, hf⟩ := ob2 hf
    refine r_callV C hw (mX10_answer e4) kXX10_answer ck10 rfl kb4 w1164 w1166 v42 ⟨Nat.le_of_ble_eq_true rfl, Nat.le_of_ble_eq_true rfl⟩ rfl hl.1 (rest := []) rfl (Nat.le_of_ble_eq_true rfl) dX10_got_112 (mc := 0) (ms := 0) rfl rfl ⟨by show _ + 0 ≤ 0; omega, by show _ + 0 ≤ 0; omega⟩ (fun H locs hw => ?_)
    refine W.eq (g2 := F0 m 115 ls []) rfl ?_
    obtain ⟨rfl, rfl⟩ := sp hf
    exact r_vret C hw rfl (by omega) (by omega) dX10_got_115
set_option maxRecDepth 100000 in
set_option maxHeartbeats 4000000 in
theorem bX10_got_82 {D : va_G} {cy : Nat → ClassId} {s0 : Nat} {p : Program} {l : Launch} {e : Env} {s : State} {m : MethodId} {args : Array Value} {below : List Frame} {meth : Method} {c : Code} (C : CX D cy s0 p s m args meth c cX10_got 4 RX10 none) (hn : meth.name = "got") : ∀ (x0 : Nat) (x1 : Int32) (x2 : Int32) (x3 : Int32) (h : Hp) (r : Unit × Hp), fX10_got_82 x0 x1 x2 x3 h = some r → pX10_got_82 D cy s0 p l e s m args below meth c r x0 x1 x2 x3 h := by
  intro x0 x1 x2 x3 h ⟨rv, rh⟩ hf H locs ls cells slots hc hs hw hl
  unfold fX10_got_82 at hf
  have hx := C.1
  have hb := C.2.1
  refine lv_aload_n hx hb dX10_got_82 rfl (lv_at hl 0 rfl) ?_
  obtain ⟨z1, e1, hf⟩ := ob hf
  refine r_gR C hw e1 ck10 rfl (by decide) w978 dX10_got_83 ?_
  cases z1 with
  | none =>
    have hf := on_n hf
    cases hf
  | some a2 =>
    have hf := on_s hf
    refine W.eq (g2 := F0 m 86 ls [.ref a2]) rfl ?_
    refine lv_iload_n hx hb dX10_got_86 rfl (lv_at hl 1 rfl) ?_
    obtain ⟨z3, e3, hf⟩ := ob hf
    refine r_iald C hw e3 dX10_got_87 ?_
    refine lv_iconst (v := (2 : Int32)) hx hb dX10_got_88 (by decide) ?_
    refine lv_icmp_eq (tgt := 102) hx hb dX10_got_89 (by decide) (fun c4 => ?_) (fun c4 => ?_)
    · have hf := ip hf c4
      exact bX10_got_102 C hn _ _ _ _ _ hf _ _ _ _ _ (by omega) (by omega) hw (lv_sub hl [0, 2, 3] rfl)
    · have hf := ie hf c4
      refine lv_aload_n hx hb dX10_got_92 rfl (lv_at hl 0 rfl) ?_
      obtain ⟨z5, e5, hf⟩ := ob hf
      refine r_gR C hw e5 ck10 rfl (by decide) w978 dX10_got_93 ?_
      cases z5 with
      | none =>
        have hf := on_n hf
        cases hf
      | some a6 =>
        have hf := on_s hf
        refine W.eq (g2 := F0 m 96 ls [.ref a6]) rfl ?_
        refine lv_iload_n hx hb dX10_got_96 rfl (lv_at hl 1 rfl) ?_
        obtain ⟨z7, e7, hf⟩ := ob hf
        refine r_iald C hw e7 dX10_got_97 ?_
        refine lv_iconst (v := (5 : Int32)) hx hb dX10_got_98 (by decide) ?_
        refine lv_icmp_ne (tgt := 115) hx hb dX10_got_99 (by decide) (fun c8 => ?_) (fun c8 => ?_)
        · have hf := ie hf c8
          obtain ⟨rfl, rfl⟩ := sp hf
          exact r_vret C hw rfl (by omega) (by omega) dX10_got_115
        · have hf := ip hf c8
          exact bX10_got_102 C hn _ _ _ _ _ hf _ _ _ _ _ (by omega) (by omega) hw (lv_sub hl [0, 2, 3] rfl)
set_option maxRecDepth 100000 in
set_option maxHeartbeats 4000000 in
theorem bX10_got_50 {D : va_G} {cy : Nat → ClassId} {s0 : Nat} {p : Program} {l : Launch} {e : Env} {s : State} {m : MethodId} {args : Array Value} {below : List Frame} {meth : Method} {c : Code} (C : CX D cy s0 p s m args meth c cX10_got 4 RX10 none) (hn : meth.name = "got") : ∀ (x0 : Nat) (x1 : Int32) (x2 : Int32) (x3 : Int32) (h : Hp) (r : Unit × Hp), fX10_got_50 x0 x1 x2 x3 h = some r → pX10_got_50 D cy s0 p l e s m args below meth c r x0 x1 x2 x3 h := by
  intro x0 x1 x2 x3 h ⟨rv, rh⟩ hf H locs ls cells slots hc hs hw hl
  unfold fX10_got_50 at hf
  have hx := C.1
  have hb := C.2.1
  refine lv_aload_n hx hb dX10_got_50 rfl (lv_at hl 0 rfl) ?_
  obtain ⟨z1, e1, hf⟩ := ob hf
  refine r_gR C hw e1 ck10 rfl (by decide) w981 dX10_got_51 ?_
  cases z1 with
  | none =>
    have hf := on_n hf
    cases hf
  | some a2 =>
    have hf := on_s hf
    refine W.eq (g2 := F0 m 54 ls [.ref a2]) rfl ?_
    refine lv_iload_n hx hb dX10_got_54 rfl (lv_at hl 1 rfl) ?_
    obtain ⟨z3, e3, hf⟩ := ob hf
    refine r_iald C hw e3 dX10_got_55 ?_
    refine lv_aload_n hx hb dX10_got_56 rfl (lv_at hl 0 rfl) ?_
    obtain ⟨z4, e4, hf⟩ := ob hf
    refine r_gR C hw e4 ck10 rfl (by decide) w965 dX10_got_57 ?_
    cases z4 with
    | none =>
      have hf := on_n hf
      cases hf
    | some a5 =>
      have hf := on_s hf
      refine W.eq (g2 := F0 m 60 ls [.ref a5, .int z3]) rfl ?_
      refine lv_iload_n hx hb dX10_got_60 rfl (lv_at hl 2 rfl) ?_
      obtain ⟨z6, e6, hf⟩ := ob hf
      refine r_iald C hw e6 dX10_got_61 ?_
      refine lv_icmp_ge (tgt := 116) hx hb dX10_got_62 (by decide) (fun c7 => ?_) (fun c7 => ?_)
      · have hf := ip hf c7
        refine lv_aload_n hx hb dX10_got_116 rfl (lv_at hl 0 rfl) ?_
        obtain ⟨z8, e8, hf⟩ := ob hf
        refine r_gR C hw e8 ck10 rfl (by decide) w978 dX10_got_117 ?_
        cases z8 with
        | none =>
          have hf := on_n hf
          cases hf
        | some a9 =>
          have hf := on_s hf
          refine W.eq (g2 := F0 m 120 ls [.ref a9]) rfl ?_
          refine lv_iload_n hx hb dX10_got_120 rfl (lv_at hl 1 rfl) ?_
          obtain ⟨z10, e10, hf⟩ := ob hf
          refine r_iald C hw e10 dX10_got_121 ?_
          by_cases n57 : z10 = (0 : Int32)
          · have hf := ip hf n57
            refine lv_tableIn (tgt := 156) (off := 34) hx hb dX10_got_122 (by rw [n57]; decide) (by rw [n57]; decide) (by rw [n57]; rfl) (by decide) ?_
            refine lv_aload_n hx hb dX10_got_156 rfl (lv_at hl 0 rfl) ?_
            refine lv_iload_n hx hb dX10_got_157 rfl (lv_at hl 1 rfl) ?_
            refine lv_iload_n hx hb dX10_got_158 rfl (lv_at hl 2 rfl) ?_
            refine lv_iload_n hx hb dX10_got_159 rfl (lv_at hl 3 rfl) ?_
            obtain ⟨kb12, hf⟩ := ig hf
            obtain ⟨z12, h12, e12, hf⟩ := ob2 hf
            refine r_callV C hw (mX10_asked e12) kXX10_asked ck10 rfl kb12 w1168 w1170 v43 ⟨Nat.le_of_ble_eq_true rfl, Nat.le_of_ble_eq_true rfl⟩ rfl hl.1 (rest := []) rfl (Nat.le_of_ble_eq_true rfl) dX10_got_160 (mc := 0) (ms := 0) rfl rfl ⟨by show _ + 0 ≤ 0; omega, by show _ + 0 ≤ 0; omega⟩ (fun H locs hw => ?_)
            refine W.eq (g2 := F0 m 163 ls []) rfl ?_
            refine lv_goto (tgt := 310) hx hb dX10_got_163 (by decide) ?_
            obtain ⟨rfl, rfl⟩ := sp hf
            exact r_vret C hw rfl (by omega) (by omega) dX10_got_310
          · have hf := ie hf n57
            by_cases n58 : z10 = (1 : Int32)
            · have hf := ip hf n58
              refine lv_tableIn (tgt := 166) (off := 44) hx hb dX10_got_122 (by rw [n58]; decide) (by rw [n58]; decide) (by rw [n58]; rfl) (by decide) ?_
              refine lv_aload_n hx hb dX10_got_166 rfl (lv_at hl 0 rfl) ?_
              obtain ⟨z13, e13, hf⟩ := ob hf
              refine r_gR C hw e13 ck10 rfl (by decide) w971 dX10_got_167 ?_
              cases z13 with
              | none =>
                have hf := on_n hf
                cases hf
              | some a14 =>
                have hf := on_s hf
                refine W.eq (g2 := F0 m 170 ls [.ref a14]) rfl ?_
                refine lv_iload_n hx hb dX10_got_170 rfl (lv_at hl 2 rfl) ?_
                obtain ⟨z15, e15, hf⟩ := ob hf
                refine r_iald C hw e15 dX10_got_171 ?_
                refine lv_iconst (v := (1 : Int32)) hx hb dX10_got_172 (by decide) ?_
                refine lv_icmp_ne (tgt := 310) hx hb dX10_got_173 (by decide) (fun c16 => ?_) (fun c16 => ?_)
                · have hf := ie hf c16
                  obtain ⟨rfl, rfl⟩ := sp hf
                  exact r_vret C hw rfl (by omega) (by omega) dX10_got_310
                · have hf := ip hf c16
                  refine lv_aload_n hx hb dX10_got_176 rfl (lv_at hl 0 rfl) ?_
                  obtain ⟨z17, e17, hf⟩ := ob hf
                  refine r_gR C hw e17 ck10 rfl (by decide) w982 dX10_got_177 ?_
                  cases z17 with
                  | none =>
                    have hf := on_n hf
                    cases hf
                  | some a18 =>
                    have hf := on_s hf
                    refine W.eq (g2 := F0 m 180 ls [.ref a18]) rfl ?_
                    refine lv_iload_n hx hb dX10_got_180 rfl (lv_at hl 1 rfl) ?_
                    obtain ⟨z19, e19, hf⟩ := ob hf
                    refine r_iald C hw e19 dX10_got_181 ?_
                    refine lv_iconst (v := (1 : Int32)) hx hb dX10_got_182 (by decide) ?_
                    refine lv_icmp_ne (tgt := 310) hx hb dX10_got_183 (by decide) (fun c20 => ?_) (fun c20 => ?_)
                    · have hf := ie hf c20
                      obtain ⟨rfl, rfl⟩ := sp hf
                      exact r_vret C hw rfl (by omega) (by omega) dX10_got_310
                    · have hf := ip hf c20
                      refine lv_aload_n hx hb dX10_got_186 rfl (lv_at hl 0 rfl) ?_
                      refine lv_iload_n hx hb dX10_got_187 rfl (lv_at hl 2 rfl) ?_
                      refine lv_iload_n hx hb dX10_got_188 rfl (lv_at hl 3 rfl) ?_
                      obtain ⟨kb21, hf⟩ := ig hf
                      obtain ⟨z21, h21, e21, hf⟩ := ob2 hf
                      refine r_callV C hw (mX10_counts e21) kXX10_counts ck10 rfl kb21 w1172 w1174 v44 ⟨Nat.le_of_ble_eq_true rfl, Nat.le_of_ble_eq_true rfl⟩ rfl hl.1 (rest := []) rfl (Nat.le_of_ble_eq_true rfl) dX10_got_189 (mc := 0) (ms := 0) rfl rfl ⟨by show _ + 0 ≤ 0; omega, by show _ + 0 ≤ 0; omega⟩ (fun H locs hw => ?_)
                      refine W.eq (g2 := F0 m 192 ls []) rfl ?_
                      refine lv_goto (tgt := 310) hx hb dX10_got_192 (by decide) ?_
                      obtain ⟨rfl, rfl⟩ := sp hf
                      exact r_vret C hw rfl (by omega) (by omega) dX10_got_310
            · have hf := ie hf n58
              by_cases n59 : z10 = (2 : Int32)
              · have hf := ip hf n59
                refine lv_tableIn (tgt := 195) (off := 73) hx hb dX10_got_122 (by rw [n59]; decide) (by rw [n59]; decide) (by rw [n59]; rfl) (by decide) ?_
                refine lv_aload_n hx hb dX10_got_195 rfl (lv_at hl 0 rfl) ?_
                refine lv_iload_n hx hb dX10_got_196 rfl (lv_at hl 1 rfl) ?_
                refine lv_iload_n hx hb dX10_got_197 rfl (lv_at hl 2 rfl) ?_
                refine lv_iload_n hx hb dX10_got_198 rfl (lv_at hl 3 rfl) ?_
                obtain ⟨kb22, hf⟩ := ig hf
                obtain ⟨z22, h22, e22, hf⟩ := ob2 hf
                refine r_callV C hw (mX10_appends e22) kXX10_appends ck10 rfl kb22 w1193 w1195 v49 ⟨Nat.le_of_ble_eq_true rfl, Nat.le_of_ble_eq_true rfl⟩ rfl hl.1 (rest := []) rfl (Nat.le_of_ble_eq_true rfl) dX10_got_199 (mc := 0) (ms := 0) rfl rfl ⟨by show _ + 0 ≤ 0; omega, by show _ + 0 ≤ 0; omega⟩ (fun H locs hw => ?_)
                refine W.eq (g2 := F0 m 202 ls []) rfl ?_
                refine lv_goto (tgt := 310) hx hb dX10_got_202 (by decide) ?_
                obtain ⟨rfl, rfl⟩ := sp hf
                exact r_vret C hw rfl (by omega) (by omega) dX10_got_310
              · have hf := ie hf n59
                by_cases n60 : z10 = (3 : Int32)
                · have hf := ip hf n60
                  refine lv_tableIn (tgt := 205) (off := 83) hx hb dX10_got_122 (by rw [n60]; decide) (by rw [n60]; decide) (by rw [n60]; rfl) (by decide) ?_
                  refine lv_aload_n hx hb dX10_got_205 rfl (lv_at hl 0 rfl) ?_
                  obtain ⟨z23, e23, hf⟩ := ob hf
                  refine r_gR C hw e23 ck10 rfl (by decide) w971 dX10_got_206 ?_
                  cases z23 with
                  | none =>
                    have hf := on_n hf
                    cases hf
                  | some a24 =>
                    have hf := on_s hf
                    refine W.eq (g2 := F0 m 209 ls [.ref a24]) rfl ?_
                    refine lv_iload_n hx hb dX10_got_209 rfl (lv_at hl 2 rfl) ?_
                    obtain ⟨z25, e25, hf⟩ := ob hf
                    refine r_iald C hw e25 dX10_got_210 ?_
                    refine lv_iconst (v := (2 : Int32)) hx hb dX10_got_211 (by decide) ?_
                    refine lv_icmp_ne (tgt := 310) hx hb dX10_got_212 (by decide) (fun c26 => ?_) (fun c26 => ?_)
                    · have hf := ie hf c26
                      obtain ⟨rfl, rfl⟩ := sp hf
                      exact r_vret C hw rfl (by omega) (by omega) dX10_got_310
                    · have hf := ip hf c26
                      refine lv_aload_n hx hb dX10_got_215 rfl (lv_at hl 0 rfl) ?_
                      refine lv_iload_n hx hb dX10_got_216 rfl (lv_at hl 2 rfl) ?_
                      refine lv_iload_n hx hb dX10_got_217 rfl (lv_at hl 3 rfl) ?_
                      refine lv_aload_n hx hb dX10_got_218 rfl (lv_at hl 0 rfl) ?_
                      obtain ⟨z27, e27, hf⟩ := ob hf
                      refine r_gR C hw e27 ck10 rfl (by decide) w982 dX10_got_219 ?_
                      cases z27 with
                      | none =>
                        have hf := on_n hf
                        cases hf
                      | some a28 =>
                        have hf := on_s hf
                        refine W.eq (g2 := F0 m 222 ls [.ref a28, .int x3, .int x2, .ref x0]) rfl ?_
                        refine lv_iload_n hx hb dX10_got_222 rfl (lv_at hl 1 rfl) ?_
                        obtain ⟨z29, e29, hf⟩ := ob hf
                        refine r_iald C hw e29 dX10_got_223 ?_
                        obtain ⟨kb30, hf⟩ := ig hf
                        obtain ⟨z30, h30, e30, hf⟩ := ob2 hf
                        refine r_callV C hw (mX10_accepted e30) kXX10_accepted ck10 rfl kb30 w1198 w1200 v50 ⟨Nat.le_of_ble_eq_true rfl, Nat.le_of_ble_eq_true rfl⟩ rfl hl.1 (rest := []) rfl (Nat.le_of_ble_eq_true rfl) dX10_got_224 (mc := 0) (ms := 0) rfl rfl ⟨by show _ + 0 ≤ 0; omega, by show _ + 0 ≤ 0; omega⟩ (fun H locs hw => ?_)
                        refine W.eq (g2 := F0 m 227 ls []) rfl ?_
                        refine lv_goto (tgt := 310) hx hb dX10_got_227 (by decide) ?_
                        obtain ⟨rfl, rfl⟩ := sp hf
                        exact r_vret C hw rfl (by omega) (by omega) dX10_got_310
                · have hf := ie hf n60
                  by_cases n61 : z10 = (4 : Int32)
                  · have hf := ip hf n61
                    refine lv_tableIn (tgt := 230) (off := 108) hx hb dX10_got_122 (by rw [n61]; decide) (by rw [n61]; decide) (by rw [n61]; rfl) (by decide) ?_
                    refine lv_aload_n hx hb dX10_got_230 rfl (lv_at hl 0 rfl) ?_
                    obtain ⟨z31, e31, hf⟩ := ob hf
                    refine r_gR C hw e31 ck10 rfl (by decide) w971 dX10_got_231 ?_
                    cases z31 with
                    | none =>
                      have hf := on_n hf
                      cases hf
                    | some a32 =>
                      have hf := on_s hf
                      refine W.eq (g2 := F0 m 234 ls [.ref a32]) rfl ?_
                      refine lv_iload_n hx hb dX10_got_234 rfl (lv_at hl 2 rfl) ?_
                      obtain ⟨z33, e33, hf⟩ := ob hf
                      refine r_iald C hw e33 dX10_got_235 ?_
                      refine lv_iconst (v := (2 : Int32)) hx hb dX10_got_236 (by decide) ?_
                      refine lv_icmp_ne (tgt := 310) hx hb dX10_got_237 (by decide) (fun c34 => ?_) (fun c34 => ?_)
                      · have hf := ie hf c34
                        obtain ⟨rfl, rfl⟩ := sp hf
                        exact r_vret C hw rfl (by omega) (by omega) dX10_got_310
                      · have hf := ip hf c34
                        refine lv_aload_n hx hb dX10_got_240 rfl (lv_at hl 0 rfl) ?_
                        obtain ⟨z35, e35, hf⟩ := ob hf
                        refine r_gR C hw e35 ck10 rfl (by decide) w974 dX10_got_241 ?_
                        cases z35 with
                        | none =>
                          have hf := on_n hf
                          cases hf
                        | some a36 =>
                          have hf := on_s hf
                          refine W.eq (g2 := F0 m 244 ls [.ref a36]) rfl ?_
                          refine lv_iconst (v := (5 : Int32)) hx hb dX10_got_244 (by decide) ?_
                          refine lv_iload_n hx hb dX10_got_245 rfl (lv_at hl 2 rfl) ?_
                          refine lv_imul hx hb dX10_got_246 ?_
                          refine lv_iload_n hx hb dX10_got_247 rfl (lv_at hl 3 rfl) ?_
                          refine lv_iadd hx hb dX10_got_248 ?_
                          obtain ⟨z37, e37, hf⟩ := ob hf
                          refine r_iald C hw e37 dX10_got_249 ?_
                          refine lv_aload_n hx hb dX10_got_250 rfl (lv_at hl 0 rfl) ?_
                          obtain ⟨z38, e38, hf⟩ := ob hf
                          refine r_gR C hw e38 ck10 rfl (by decide) w982 dX10_got_251 ?_
                          cases z38 with
                          | none =>
                            have hf := on_n hf
                            cases hf
                          | some a39 =>
                            have hf := on_s hf
                            refine W.eq (g2 := F0 m 254 ls [.ref a39, .int z37]) rfl ?_
                            refine lv_iload_n hx hb dX10_got_254 rfl (lv_at hl 1 rfl) ?_
                            obtain ⟨z40, e40, hf⟩ := ob hf
                            refine r_iald C hw e40 dX10_got_255 ?_
                            refine lv_iconst (v := (1 : Int32)) hx hb dX10_got_256 (by decide) ?_
                            refine lv_iadd hx hb dX10_got_257 ?_
                            refine lv_icmp_le (tgt := 294) hx hb dX10_got_258 (by decide) (fun c41 => ?_) (fun c41 => ?_)
                            · have hf := ip hf c41
                              exact bX10_got_294 C hn _ _ _ _ _ hf _ _ _ _ _ (by omega) (by omega) hw (lv_sub hl [0, 2, 3] rfl)
                            · have hf := ie hf c41
                              refine lv_aload_n hx hb dX10_got_261 rfl (lv_at hl 0 rfl) ?_
                              obtain ⟨z42, e42, hf⟩ := ob hf
                              refine r_gR C hw e42 ck10 rfl (by decide) w974 dX10_got_262 ?_
                              cases z42 with
                              | none =>
                                have hf := on_n hf
                                cases hf
                              | some a43 =>
                                have hf := on_s hf
                                refine W.eq (g2 := F0 m 265 ls [.ref a43]) rfl ?_
                                refine lv_iconst (v := (5 : Int32)) hx hb dX10_got_265 (by decide) ?_
                                refine lv_iload_n hx hb dX10_got_266 rfl (lv_at hl 2 rfl) ?_
                                refine lv_imul hx hb dX10_got_267 ?_
                                refine lv_iload_n hx hb dX10_got_268 rfl (lv_at hl 3 rfl) ?_
                                refine lv_iadd hx hb dX10_got_269 ?_
                                refine lv_aload_n hx hb dX10_got_270 rfl (lv_at hl 0 rfl) ?_
                                obtain ⟨z44, e44, hf⟩ := ob hf
                                refine r_gR C hw e44 ck10 rfl (by decide) w982 dX10_got_271 ?_
                                cases z44 with
                                | none =>
                                  have hf := on_n hf
                                  cases hf
                                | some a45 =>
                                  have hf := on_s hf
                                  refine W.eq (g2 := F0 m 274 ls [.ref a45, .int (((5 : Int32) * x2) + x3), .ref a43]) rfl ?_
                                  refine lv_iload_n hx hb dX10_got_274 rfl (lv_at hl 1 rfl) ?_
                                  obtain ⟨z46, e46, hf⟩ := ob hf
                                  refine r_iald C hw e46 dX10_got_275 ?_
                                  refine lv_iconst (v := (1 : Int32)) hx hb dX10_got_276 (by decide) ?_
                                  refine lv_iadd hx hb dX10_got_277 ?_
                                  refine lv_aload_n hx hb dX10_got_278 rfl (lv_at hl 0 rfl) ?_
                                  obtain ⟨z47, e47, hf⟩ := ob hf
                                  refine r_gR C hw e47 ck10 rfl (by decide) w975 dX10_got_279 ?_
                                  cases z47 with
                                  | none =>
                                    have hf := on_n hf
                                    cases hf
                                  | some a48 =>
                                    have hf := on_s hf
                                    refine W.eq (g2 := F0 m 282 ls [.ref a48, .int (z46 + (1 : Int32)), .int (((5 : Int32) * x2) + x3), .ref a43]) rfl ?_
                                    refine lv_iconst (v := (5 : Int32)) hx hb dX10_got_282 (by decide) ?_
                                    refine lv_iload_n hx hb dX10_got_283 rfl (lv_at hl 2 rfl) ?_
                                    refine lv_imul hx hb dX10_got_284 ?_
                                    refine lv_iload_n hx hb dX10_got_285 rfl (lv_at hl 3 rfl) ?_
                                    refine lv_iadd hx hb dX10_got_286 ?_
                                    obtain ⟨z49, e49, hf⟩ := ob hf
                                    refine r_iald C hw e49 dX10_got_287 ?_
                                    refine lv_iconst (v := (1 : Int32)) hx hb dX10_got_288 (by decide) ?_
                                    refine lv_iadd hx hb dX10_got_289 ?_
                                    refine va_mmax hx hb (by rw [C.2.2.1]; exact hl.1.symm) C.2.2.2.1 (C.2.2.2.2.1 _ w1197) (C.2.2.2.2.1 _ w569) (C.2.2.2.2.1 _ w18) (C.2.2.2.2.1 _ w570) (Nat.le_of_ble_eq_true rfl) (Nat.le_of_ble_eq_true rfl) (by show _ ≤ 0; omega) (by show _ ≤ 0; omega) dX10_got_290 ?_
                                    refine W.eq (g2 := F0 m 293 ls [.int (mx (z46 + (1 : Int32)) (z49 + (1 : Int32))), .int (((5 : Int32) * x2) + x3), .ref a43]) rfl ?_
                                    obtain ⟨h50, e50, hf⟩ := ob hf
                                    refine r_iast C hw e50 dX10_got_293 (fun H locs hw => ?_)
                                    exact bX10_got_294 C hn _ _ _ _ _ hf _ _ _ _ _ (by omega) (by omega) hw (lv_sub hl [0, 2, 3] rfl)
                  · have hf := ie hf n61
                    refine lv_tableOut (tgt := 303) hx hb dX10_got_122 (tsw_out (x := z10) 0 [(0 : Int32), (1 : Int32), (2 : Int32), (3 : Int32), (4 : Int32)] (by decide) (List.forall_mem_cons.mpr ⟨n57, List.forall_mem_cons.mpr ⟨n58, List.forall_mem_cons.mpr ⟨n59, List.forall_mem_cons.mpr ⟨n60, List.forall_mem_cons.mpr ⟨n61, fun _ h9 => absurd h9 List.not_mem_nil⟩⟩⟩⟩⟩)) (by decide) ?_
                    refine lv_aload_n hx hb dX10_got_303 rfl (lv_at hl 0 rfl) ?_
                    refine lv_iload_n hx hb dX10_got_304 rfl (lv_at hl 1 rfl) ?_
                    refine lv_iload_n hx hb dX10_got_305 rfl (lv_at hl 2 rfl) ?_
                    refine lv_iload_n hx hb dX10_got_306 rfl (lv_at hl 3 rfl) ?_
                    obtain ⟨kb11, hf⟩ := ig hf
                    obtain ⟨z11, h11, e11, hf⟩ := ob2 hf
                    refine r_callV C hw (mX10_installs e11) kXX10_installs ck10 rfl kb11 w1202 w1204 v51 ⟨Nat.le_of_ble_eq_true rfl, Nat.le_of_ble_eq_true rfl⟩ rfl hl.1 (rest := []) rfl (Nat.le_of_ble_eq_true rfl) dX10_got_307 (mc := 0) (ms := 0) rfl rfl ⟨by show _ + 0 ≤ 0; omega, by show _ + 0 ≤ 0; omega⟩ (fun H locs hw => ?_)
                    refine W.eq (g2 := F0 m 310 ls []) rfl ?_
                    obtain ⟨rfl, rfl⟩ := sp hf
                    exact r_vret C hw rfl (by omega) (by omega) dX10_got_310
      · have hf := ie hf c7
        refine lv_aload_n hx hb dX10_got_65 rfl (lv_at hl 0 rfl) ?_
        obtain ⟨z62, e62, hf⟩ := ob hf
        refine r_gR C hw e62 ck10 rfl (by decide) w978 dX10_got_66 ?_
        cases z62 with
        | none =>
          have hf := on_n hf
          cases hf
        | some a63 =>
          have hf := on_s hf
          refine W.eq (g2 := F0 m 69 ls [.ref a63]) rfl ?_
          refine lv_iload_n hx hb dX10_got_69 rfl (lv_at hl 1 rfl) ?_
          obtain ⟨z64, e64, hf⟩ := ob hf
          refine r_iald C hw e64 dX10_got_70 ?_
          refine lv_if_ne (tgt := 82) hx hb dX10_got_71 (by decide) (fun c65 => ?_) (fun c65 => ?_)
          · have hf := ie hf c65
            exact bX10_got_82 C hn _ _ _ _ _ _ hf _ _ _ _ _ (by omega) (by omega) hw (lv_sub hl [0, 1, 2, 3] rfl)
          · have hf := ip hf c65
            refine lv_aload_n hx hb dX10_got_74 rfl (lv_at hl 0 rfl) ?_
            refine lv_iconst (v := (1 : Int32)) hx hb dX10_got_75 (by decide) ?_
            refine lv_iload_n hx hb dX10_got_76 rfl (lv_at hl 2 rfl) ?_
            refine lv_iload_n hx hb dX10_got_77 rfl (lv_at hl 3 rfl) ?_
            refine lv_iconst (v := (0 : Int32)) hx hb dX10_got_78 (by decide) ?_
            obtain ⟨kb66, hf⟩ := ig hf
            obtain ⟨z66, h66, e66, hf⟩ := ob2 hf
            refine r_callV C hw (mX10_answer e66) kXX10_answer ck10 rfl kb66 w1164 w1166 v42 ⟨Nat.le_of_ble_eq_true rfl, Nat.le_of_ble_eq_true rfl⟩ rfl hl.1 (rest := []) rfl (Nat.le_of_ble_eq_true rfl) dX10_got_79 (mc := 0) (ms := 0) rfl rfl ⟨by show _ + 0 ≤ 0; omega, by show _ + 0 ≤ 0; omega⟩ (fun H locs hw => ?_)
            refine W.eq (g2 := F0 m 82 ls []) rfl ?_
            exact bX10_got_82 C hn _ _ _ _ _ _ hf _ _ _ _ _ (by omega) (by omega) hw (lv_sub hl [0, 1, 2, 3] rfl)
set_option maxRecDepth 100000 in
set_option maxHeartbeats 4000000 in
theorem bX10_got {D : va_G} {cy : Nat → ClassId} {s0 : Nat} {p : Program} {l : Launch} {e : Env} {s : State} {m : MethodId} {args : Array Value} {below : List Frame} {meth : Method} {c : Code} (C : CX D cy s0 p s m args meth c cX10_got 4 RX10 none) (hn : meth.name = "got") : ∀ (x0 : Nat) (x1 : Int32) (x2 : Int32) (x3 : Int32) (h : Hp) (r : Unit × Hp), fX10_got x0 x1 x2 x3 h = some r → pX10_got D cy s0 p l e s m args below meth c r x0 x1 x2 x3 h := by
  intro x0 x1 x2 x3 h ⟨rv, rh⟩ hf H locs ls cells slots hc hs hw hl
  unfold fX10_got at hf
  have hx := C.1
  have hb := C.2.1
  refine lv_aload_n hx hb dX10_got_0 rfl (lv_at hl 0 rfl) ?_
  obtain ⟨z1, e1, hf⟩ := ob hf
  refine r_gR C hw e1 ck10 rfl (by decide) w981 dX10_got_1 ?_
  cases z1 with
  | none =>
    have hf := on_n hf
    cases hf
  | some a2 =>
    have hf := on_s hf
    refine W.eq (g2 := F0 m 4 ls [.ref a2]) rfl ?_
    refine lv_iload_n hx hb dX10_got_4 rfl (lv_at hl 1 rfl) ?_
    obtain ⟨z3, e3, hf⟩ := ob hf
    refine r_iald C hw e3 dX10_got_5 ?_
    refine lv_aload_n hx hb dX10_got_6 rfl (lv_at hl 0 rfl) ?_
    obtain ⟨z4, e4, hf⟩ := ob hf
    refine r_gR C hw e4 ck10 rfl (by decide) w965 dX10_got_7 ?_
    cases z4 with
    | none =>
      have hf := on_n hf
      cases hf
    | some a5 =>
      have hf := on_s hf
      refine W.eq (g2 := F0 m 10 ls [.ref a5, .int z3]) rfl ?_
      refine lv_iload_n hx hb dX10_got_10 rfl (lv_at hl 2 rfl) ?_
      obtain ⟨z6, e6, hf⟩ := ob hf
      refine r_iald C hw e6 dX10_got_11 ?_
      refine lv_icmp_le (tgt := 50) hx hb dX10_got_12 (by decide) (fun c7 => ?_) (fun c7 => ?_)
      · have hf := ip hf c7
        exact bX10_got_50 C hn _ _ _ _ _ _ hf _ _ _ _ _ (by omega) (by omega) hw (lv_sub hl [0, 1, 2, 3] rfl)
      · have hf := ie hf c7
        refine lv_aload_n hx hb dX10_got_15 rfl (lv_at hl 0 rfl) ?_
        refine lv_iload_n hx hb dX10_got_16 rfl (lv_at hl 2 rfl) ?_
        obtain ⟨kb8, hf⟩ := ig hf
        obtain ⟨z8, h8, e8, hf⟩ := ob2 hf
        refine r_callV C hw (mX10_record e8) kXX10_record ck10 rfl kb8 w1136 w1138 v36 ⟨Nat.le_of_ble_eq_true rfl, Nat.le_of_ble_eq_true rfl⟩ rfl hl.1 (rest := []) rfl (Nat.le_of_ble_eq_true rfl) dX10_got_17 (mc := 0) (ms := 0) rfl rfl ⟨by show _ + 0 ≤ 0; omega, by show _ + 0 ≤ 0; omega⟩ (fun H locs hw => ?_)
        refine W.eq (g2 := F0 m 20 ls [.int z8]) rfl ?_
        refine lv_if_ne (tgt := 24) hx hb dX10_got_20 (by decide) (fun c9 => ?_) (fun c9 => ?_)
        · have hf := ie hf c9
          refine lv_aload_n hx hb dX10_got_24 rfl (lv_at hl 0 rfl) ?_
          obtain ⟨z10, e10, hf⟩ := ob hf
          refine r_gR C hw e10 ck10 rfl (by decide) w965 dX10_got_25 ?_
          cases z10 with
          | none =>
            have hf := on_n hf
            cases hf
          | some a11 =>
            have hf := on_s hf
            refine W.eq (g2 := F0 m 28 ls [.ref a11]) rfl ?_
            refine lv_iload_n hx hb dX10_got_28 rfl (lv_at hl 2 rfl) ?_
            refine lv_aload_n hx hb dX10_got_29 rfl (lv_at hl 0 rfl) ?_
            obtain ⟨z12, e12, hf⟩ := ob hf
            refine r_gR C hw e12 ck10 rfl (by decide) w981 dX10_got_30 ?_
            cases z12 with
            | none =>
              have hf := on_n hf
              cases hf
            | some a13 =>
              have hf := on_s hf
              refine W.eq (g2 := F0 m 33 ls [.ref a13, .int x2, .ref a11]) rfl ?_
              refine lv_iload_n hx hb dX10_got_33 rfl (lv_at hl 1 rfl) ?_
              obtain ⟨z14, e14, hf⟩ := ob hf
              refine r_iald C hw e14 dX10_got_34 ?_
              obtain ⟨h15, e15, hf⟩ := ob hf
              refine r_iast C hw e15 dX10_got_35 (fun H locs hw => ?_)
              refine lv_aload_n hx hb dX10_got_36 rfl (lv_at hl 0 rfl) ?_
              obtain ⟨z16, e16, hf⟩ := ob hf
              refine r_gR C hw e16 ck10 rfl (by decide) w966 dX10_got_37 ?_
              cases z16 with
              | none =>
                have hf := on_n hf
                cases hf
              | some a17 =>
                have hf := on_s hf
                refine W.eq (g2 := F0 m 40 ls [.ref a17]) rfl ?_
                refine lv_iload_n hx hb dX10_got_40 rfl (lv_at hl 2 rfl) ?_
                refine lv_iconst (v := (-1 : Int32)) hx hb dX10_got_41 (by decide) ?_
                obtain ⟨h18, e18, hf⟩ := ob hf
                refine r_iast C hw e18 dX10_got_42 (fun H locs hw => ?_)
                refine lv_aload_n hx hb dX10_got_43 rfl (lv_at hl 0 rfl) ?_
                obtain ⟨z19, e19, hf⟩ := ob hf
                refine r_gR C hw e19 ck10 rfl (by decide) w971 dX10_got_44 ?_
                cases z19 with
                | none =>
                  have hf := on_n hf
                  cases hf
                | some a20 =>
                  have hf := on_s hf
                  refine W.eq (g2 := F0 m 47 ls [.ref a20]) rfl ?_
                  refine lv_iload_n hx hb dX10_got_47 rfl (lv_at hl 2 rfl) ?_
                  refine lv_iconst (v := (0 : Int32)) hx hb dX10_got_48 (by decide) ?_
                  obtain ⟨h21, e21, hf⟩ := ob hf
                  refine r_iast C hw e21 dX10_got_49 (fun H locs hw => ?_)
                  exact bX10_got_50 C hn _ _ _ _ _ _ hf _ _ _ _ _ (by omega) (by omega) hw (lv_sub hl [0, 1, 2, 3] rfl)
        · have hf := ip hf c9
          obtain ⟨rfl, rfl⟩ := sp hf
          exact r_vret C hw rfl (by omega) (by omega) dX10_got_23
theorem kXX10_got : MK yX10_got cX10_got 4 none 3 := ⟨w1163, w8, by decide +kernel⟩
theorem mX10_got {D : va_G} {cy : Nat → ClassId} {s0 : Nat} {l : Launch} {x0 : Nat} {x1 : Int32} {x2 : Int32} {x3 : Int32} {h : Hp} {v : Unit} {h1 : Hp} (hf : fX10_got x0 x1 x2 x3 h = some (v, h1)) : MT D cy s0 l yX10_got cX10_got 4 none rX10_got [.ref x0, .int x1, .int x2, .int x3] h none h1 := by
  refine MT.of (by decide +kernel) (Nat.le_of_ble_eq_true rfl) ?_
  intro p e s m below meth c H locs ls C hn hw hl
  exact bX10_got C hn _ _ _ _ _ _ hf _ _ _ _ _ (Nat.le_of_ble_eq_true rfl) (Nat.le_of_ble_eq_true rfl) hw hl
abbrev rX10_deliver : Room := { frames := 6, cells := 0, slots := 0, locals := 142 }
abbrev pX10_deliver_18 (D : va_G) (cy : Nat → ClassId) (s0 : Nat) (p : Program) (l : Launch) (e : Env) (s : State) (m : MethodId) (args : Array Value) (below : List Frame) (meth : Method) (c : Code) (r : Int32 × Hp) (x0 : Nat) (x1 : Int32) (y0 : Int32) (y1 : Nat) (h : Hp) : Prop := ∀ (H : Heap) (locs : List Loc) (ls : Array Slot) (cells slots : Nat), cells + (0) ≤ 0 → slots + (0) ≤ 0 → WS D cy s0 s h H locs → lv_has ls 3 [(0, .ref x0), (1, .int x1)] → W p l e rX10_deliver s m args below meth c H locs cells slots (MQ below (QQ D cy s0 (some (.int r.1)) r.2) args s 0 0 (fun q => s0 ≤ q)) (F0 m 18 ls [.int y0, .ref y1])
abbrev pX10_deliver_13 (D : va_G) (cy : Nat → ClassId) (s0 : Nat) (p : Program) (l : Launch) (e : Env) (s : State) (m : MethodId) (args : Array Value) (below : List Frame) (meth : Method) (c : Code) (r : Int32 × Hp) (x0 : Nat) (x1 : Int32) (y0 : Nat) (h : Hp) : Prop := ∀ (H : Heap) (locs : List Loc) (ls : Array Slot) (cells slots : Nat), cells + (0) ≤ 0 → slots + (0) ≤ 0 → WS D cy s0 s h H locs → lv_has ls 3 [(0, .ref x0), (1, .int x1)] → W p l e rX10_deliver s m args below meth c H locs cells slots (MQ below (QQ D cy s0 (some (.int r.1)) r.2) args s 0 0 (fun q => s0 ≤ q)) (F0 m 13 ls [.ref y0])
abbrev pX10_deliver (D : va_G) (cy : Nat → ClassId) (s0 : Nat) (p : Program) (l : Launch) (e : Env) (s : State) (m : MethodId) (args : Array Value) (below : List Frame) (meth : Method) (c : Code) (r : Int32 × Hp) (x0 : Nat) (x1 : Int32) (h : Hp) : Prop := ∀ (H : Heap) (locs : List Loc) (ls : Array Slot) (cells slots : Nat), cells + (0) ≤ 0 → slots + (0) ≤ 0 → WS D cy s0 s h H locs → lv_has ls 3 [(0, .ref x0), (1, .int x1)] → W p l e rX10_deliver s m args below meth c H locs cells slots (MQ below (QQ D cy s0 (some (.int r.1)) r.2) args s 0 0 (fun q => s0 ≤ q)) (F0 m 0 ls [])
set_option maxRecDepth 100000 in
set_option maxHeartbeats 4000000 in
theorem bX10_deliver_18 {D : va_G} {cy : Nat → ClassId} {s0 : Nat} {p : Program} {l : Launch} {e : Env} {s : State} {m : MethodId} {args : Array Value} {below : List Frame} {meth : Method} {c : Code} (C : CX D cy s0 p s m args meth c cX10_deliver 3 RX10 (some .int)) (hn : meth.name = "deliver") : ∀ (x0 : Nat) (x1 : Int32) (y0 : Int32) (y1 : Nat) (h : Hp) (r : Int32 × Hp), fX10_deliver_18 x0 x1 y0 y1 h = some r → pX10_deliver_18 D cy s0 p l e s m args below meth c r x0 x1 y0 y1 h := by
  intro x0 x1 y0 y1 h ⟨rv, rh⟩ hf H locs ls cells slots hc hs hw hl
  unfold fX10_deliver_18 at hf
  have hx := C.1
  have hb := C.2.1
  refine lv_iconst (v := (1 : Int32)) hx hb dX10_deliver_18 (by decide) ?_
  obtain ⟨kb1, hf⟩ := ig hf
  obtain ⟨z1, h1, e1, hf⟩ := ob2 hf
  refine r_callV C hw (mX10_bad e1) kXX10_bad ck10 rfl kb1 w1132 w1134 v35 ⟨Nat.le_of_ble_eq_true rfl, Nat.le_of_ble_eq_true rfl⟩ rfl hl.1 (rest := []) rfl (Nat.le_of_ble_eq_true rfl) dX10_deliver_19 (mc := 0) (ms := 0) rfl rfl ⟨by show _ + 0 ≤ 0; omega, by show _ + 0 ≤ 0; omega⟩ (fun H locs hw => ?_)
  refine W.eq (g2 := F0 m 22 ls [.int z1]) rfl ?_
  refine lv_if_eq (tgt := 27) hx hb dX10_deliver_22 (by decide) (fun c2 => ?_) (fun c2 => ?_)
  · have hf := ip hf c2
    refine lv_aload_n hx hb dX10_deliver_27 rfl (lv_at hl 0 rfl) ?_
    obtain ⟨z3, e3, hf⟩ := ob hf
    refine r_gI C hw e3 ck10 rfl (by decide) w987 dX10_deliver_28 ?_
    refine lv_istore_n (lv' := [(2, .int z3), (0, .ref x0), (1, .int x1)]) hx hb dX10_deliver_31 rfl hl (by decide) rfl (fun ls hl => ?_)
    refine lv_aload_n hx hb dX10_deliver_32 rfl (lv_at hl 1 rfl) ?_
    obtain ⟨z4, e4, hf⟩ := ob hf
    refine r_gR C hw e4 ck10 rfl (by decide) w964 dX10_deliver_33 ?_
    cases z4 with
    | none =>
      have hf := on_n hf
      cases hf
    | some a5 =>
      have hf := on_s hf
      refine W.eq (g2 := F0 m 36 ls [.ref a5]) rfl ?_
      refine lv_aload_n hx hb dX10_deliver_36 rfl (lv_at hl 1 rfl) ?_
      obtain ⟨z6, e6, hf⟩ := ob hf
      refine r_gR C hw e6 ck10 rfl (by decide) w980 dX10_deliver_37 ?_
      cases z6 with
      | none =>
        have hf := on_n hf
        cases hf
      | some a7 =>
        have hf := on_s hf
        refine W.eq (g2 := F0 m 40 ls [.ref a7, .ref a5]) rfl ?_
        refine lv_iload_n hx hb dX10_deliver_40 rfl (lv_at hl 2 rfl) ?_
        obtain ⟨z8, e8, hf⟩ := ob hf
        refine r_iald C hw e8 dX10_deliver_41 ?_
        obtain ⟨z9, e9, hf⟩ := ob hf
        refine r_zald C hw e9 dX10_deliver_42 ?_
        refine lv_if_eq (tgt := 63) hx hb dX10_deliver_43 (by decide) (fun c10 => ?_) (fun c10 => ?_)
        · have hf := ip hf c10
          refine lv_aload_n hx hb dX10_deliver_63 rfl (lv_at hl 1 rfl) ?_
          obtain ⟨z11, e11, hf⟩ := ob hf
          refine r_gI C hw e11 ck10 rfl (by decide) w987 dX10_deliver_64 ?_
          refine lv_iload_n hx hb dX10_deliver_67 rfl (lv_at hl 0 rfl) ?_
          refine lv_isub hx hb dX10_deliver_68 ?_
          obtain ⟨rfl, rfl⟩ := sp hf
          exact r_iret C hw rfl rfl (by omega) (by omega) dX10_deliver_69
        · have hf := ie hf c10
          refine lv_aload_n hx hb dX10_deliver_46 rfl (lv_at hl 1 rfl) ?_
          refine lv_iload_n hx hb dX10_deliver_47 rfl (lv_at hl 2 rfl) ?_
          refine lv_aload_n hx hb dX10_deliver_48 rfl (lv_at hl 1 rfl) ?_
          obtain ⟨z12, e12, hf⟩ := ob hf
          refine r_gR C hw e12 ck10 rfl (by decide) w980 dX10_deliver_49 ?_
          cases z12 with
          | none =>
            have hf := on_n hf
            cases hf
          | some a13 =>
            have hf := on_s hf
            refine W.eq (g2 := F0 m 52 ls [.ref a13, .int x1, .ref x0]) rfl ?_
            refine lv_iload_n hx hb dX10_deliver_52 rfl (lv_at hl 2 rfl) ?_
            obtain ⟨z14, e14, hf⟩ := ob hf
            refine r_iald C hw e14 dX10_deliver_53 ?_
            refine lv_aload_n hx hb dX10_deliver_54 rfl (lv_at hl 1 rfl) ?_
            obtain ⟨z15, e15, hf⟩ := ob hf
            refine r_gR C hw e15 ck10 rfl (by decide) w979 dX10_deliver_55 ?_
            cases z15 with
            | none =>
              have hf := on_n hf
              cases hf
            | some a16 =>
              have hf := on_s hf
              refine W.eq (g2 := F0 m 58 ls [.ref a16, .int z14, .int x1, .ref x0]) rfl ?_
              refine lv_iload_n hx hb dX10_deliver_58 rfl (lv_at hl 2 rfl) ?_
              obtain ⟨z17, e17, hf⟩ := ob hf
              refine r_iald C hw e17 dX10_deliver_59 ?_
              obtain ⟨kb18, hf⟩ := ig hf
              obtain ⟨z18, h18, e18, hf⟩ := ob2 hf
              refine r_callV C hw (mX10_got e18) kXX10_got ck10 rfl kb18 w1160 w1162 v41 ⟨Nat.le_of_ble_eq_true rfl, Nat.le_of_ble_eq_true rfl⟩ rfl hl.1 (rest := []) rfl (Nat.le_of_ble_eq_true rfl) dX10_deliver_60 (mc := 0) (ms := 0) rfl rfl ⟨by show _ + 0 ≤ 0; omega, by show _ + 0 ≤ 0; omega⟩ (fun H locs hw => ?_)
              refine W.eq (g2 := F0 m 63 ls []) rfl ?_
              refine lv_aload_n hx hb dX10_deliver_63 rfl (lv_at hl 1 rfl) ?_
              obtain ⟨z19, e19, hf⟩ := ob hf
              refine r_gI C hw e19 ck10 rfl (by decide) w987 dX10_deliver_64 ?_
              refine lv_iload_n hx hb dX10_deliver_67 rfl (lv_at hl 0 rfl) ?_
              refine lv_isub hx hb dX10_deliver_68 ?_
              obtain ⟨rfl, rfl⟩ := sp hf
              exact r_iret C hw rfl rfl (by omega) (by omega) dX10_deliver_69
  · have hf := ie hf c2
    refine lv_iconst (v := (0 : Int32)) hx hb dX10_deliver_25 (by decide) ?_
    obtain ⟨rfl, rfl⟩ := sp hf
    exact r_iret C hw rfl rfl (by omega) (by omega) dX10_deliver_26
set_option maxRecDepth 100000 in
set_option maxHeartbeats 4000000 in
theorem bX10_deliver_13 {D : va_G} {cy : Nat → ClassId} {s0 : Nat} {p : Program} {l : Launch} {e : Env} {s : State} {m : MethodId} {args : Array Value} {below : List Frame} {meth : Method} {c : Code} (C : CX D cy s0 p s m args meth c cX10_deliver 3 RX10 (some .int)) (hn : meth.name = "deliver") : ∀ (x0 : Nat) (x1 : Int32) (y0 : Nat) (h : Hp) (r : Int32 × Hp), fX10_deliver_13 x0 x1 y0 h = some r → pX10_deliver_13 D cy s0 p l e s m args below meth c r x0 x1 y0 h := by
  intro x0 x1 y0 h ⟨rv, rh⟩ hf H locs ls cells slots hc hs hw hl
  unfold fX10_deliver_13 at hf
  have hx := C.1
  have hb := C.2.1
  refine lv_iconst (v := (1 : Int32)) hx hb dX10_deliver_13 (by decide) ?_
  refine lv_goto (tgt := 18) hx hb dX10_deliver_14 (by decide) ?_
  exact bX10_deliver_18 C hn _ _ _ _ _ _ hf _ _ _ _ _ (by omega) (by omega) hw (lv_sub hl [0, 1] rfl)
set_option maxRecDepth 100000 in
set_option maxHeartbeats 4000000 in
theorem bX10_deliver {D : va_G} {cy : Nat → ClassId} {s0 : Nat} {p : Program} {l : Launch} {e : Env} {s : State} {m : MethodId} {args : Array Value} {below : List Frame} {meth : Method} {c : Code} (C : CX D cy s0 p s m args meth c cX10_deliver 3 RX10 (some .int)) (hn : meth.name = "deliver") : ∀ (x0 : Nat) (x1 : Int32) (h : Hp) (r : Int32 × Hp), fX10_deliver x0 x1 h = some r → pX10_deliver D cy s0 p l e s m args below meth c r x0 x1 h := by
  intro x0 x1 h ⟨rv, rh⟩ hf H locs ls cells slots hc hs hw hl
  unfold fX10_deliver at hf
  have hx := C.1
  have hb := C.2.1
  refine lv_aload_n hx hb dX10_deliver_0 rfl (lv_at hl 0 rfl) ?_
  refine lv_iload_n hx hb dX10_deliver_1 rfl (lv_at hl 1 rfl) ?_
  refine lv_if_lt (tgt := 13) hx hb dX10_deliver_2 (by decide) (fun c1 => ?_) (fun c1 => ?_)
  · have hf := ip hf c1
    exact bX10_deliver_13 C hn _ _ _ _ _ hf _ _ _ _ _ (by omega) (by omega) hw (lv_sub hl [0, 1] rfl)
  · have hf := ie hf c1
    refine lv_iload_n hx hb dX10_deliver_5 rfl (lv_at hl 1 rfl) ?_
    refine lv_aload_n hx hb dX10_deliver_6 rfl (lv_at hl 0 rfl) ?_
    obtain ⟨z2, e2, hf⟩ := ob hf
    refine r_gI C hw e2 ck10 rfl (by decide) w987 dX10_deliver_7 ?_
    refine lv_icmp_lt (tgt := 17) hx hb dX10_deliver_10 (by decide) (fun c3 => ?_) (fun c3 => ?_)
    · have hf := ip hf c3
      refine lv_iconst (v := (0 : Int32)) hx hb dX10_deliver_17 (by decide) ?_
      exact bX10_deliver_18 C hn _ _ _ _ _ _ hf _ _ _ _ _ (by omega) (by omega) hw (lv_sub hl [0, 1] rfl)
    · have hf := ie hf c3
      exact bX10_deliver_13 C hn _ _ _ _ _ hf _ _ _ _ _ (by omega) (by omega) hw (lv_sub hl [0, 1] rfl)
theorem kXX10_deliver : MK yX10_deliver cX10_deliver 3 (some .int) 1 := ⟨w1159, w8, by decide +kernel⟩
theorem mX10_deliver {D : va_G} {cy : Nat → ClassId} {s0 : Nat} {l : Launch} {x0 : Nat} {x1 : Int32} {h : Hp} {v : Int32} {h1 : Hp} (hf : fX10_deliver x0 x1 h = some (v, h1)) : MT D cy s0 l yX10_deliver cX10_deliver 3 (some .int) rX10_deliver [.ref x0, .int x1] h (some (.int v)) h1 := by
  refine MT.of (by decide +kernel) (Nat.le_of_ble_eq_true rfl) ?_
  intro p e s m below meth c H locs ls C hn hw hl
  exact bX10_deliver C hn _ _ _ _ hf _ _ _ _ _ (Nat.le_of_ble_eq_true rfl) (Nat.le_of_ble_eq_true rfl) hw hl
abbrev rX10_event : Room := { frames := 0, cells := 0, slots := 0, locals := 0 }
abbrev pX10_event (D : va_G) (cy : Nat → ClassId) (s0 : Nat) (p : Program) (l : Launch) (e : Env) (s : State) (m : MethodId) (args : Array Value) (below : List Frame) (meth : Method) (c : Code) (r : Unit × Hp) (x0 : Nat) (x1 : Int32) (x2 : Int32) (x3 : Int32) (h : Hp) : Prop := ∀ (H : Heap) (locs : List Loc) (ls : Array Slot) (cells slots : Nat), cells + (0) ≤ 0 → slots + (0) ≤ 0 → WS D cy s0 s h H locs → lv_has ls 4 [(0, .ref x0), (1, .int x1), (2, .int x2), (3, .int x3)] → W p l e rX10_event s m args below meth c H locs cells slots (MQ below (QQ D cy s0 none r.2) args s 0 0 (fun q => s0 ≤ q)) (F0 m 0 ls [])
set_option maxRecDepth 100000 in
set_option maxHeartbeats 4000000 in
theorem bX10_event {D : va_G} {cy : Nat → ClassId} {s0 : Nat} {p : Program} {l : Launch} {e : Env} {s : State} {m : MethodId} {args : Array Value} {below : List Frame} {meth : Method} {c : Code} (C : CX D cy s0 p s m args meth c cX10_event 4 RX10 none) (hn : meth.name = "event") : ∀ (x0 : Nat) (x1 : Int32) (x2 : Int32) (x3 : Int32) (h : Hp) (r : Unit × Hp), fX10_event x0 x1 x2 x3 h = some r → pX10_event D cy s0 p l e s m args below meth c r x0 x1 x2 x3 h := by
  intro x0 x1 x2 x3 h ⟨rv, rh⟩ hf H locs ls cells slots hc hs hw hl
  unfold fX10_event at hf
  have hx := C.1
  have hb := C.2.1
  refine lv_aload_n hx hb dX10_event_0 rfl (lv_at hl 0 rfl) ?_
  obtain ⟨z1, e1, hf⟩ := ob hf
  refine r_gR C hw e1 ck10 rfl (by decide) w1006 dX10_event_1 ?_
  cases z1 with
  | none =>
    have hf := on_n hf
    cases hf
  | some a2 =>
    have hf := on_s hf
    refine W.eq (g2 := F0 m 4 ls [.ref a2]) rfl ?_
    refine lv_aload_n hx hb dX10_event_4 rfl (lv_at hl 0 rfl) ?_
    obtain ⟨z3, e3, hf⟩ := ob hf
    refine r_gI C hw e3 ck10 rfl (by decide) w1010 dX10_event_5 ?_
    refine lv_aload_n hx hb dX10_event_8 rfl (lv_at hl 0 rfl) ?_
    obtain ⟨z4, e4, hf⟩ := ob hf
    refine r_gI C hw e4 ck10 rfl (by decide) w1003 dX10_event_9 ?_
    obtain ⟨h5, e5, hf⟩ := ob hf
    refine r_iast C hw e5 dX10_event_12 (fun H locs hw => ?_)
    refine lv_aload_n hx hb dX10_event_13 rfl (lv_at hl 0 rfl) ?_
    obtain ⟨z6, e6, hf⟩ := ob hf
    refine r_gR C hw e6 ck10 rfl (by decide) w1007 dX10_event_14 ?_
    cases z6 with
    | none =>
      have hf := on_n hf
      cases hf
    | some a7 =>
      have hf := on_s hf
      refine W.eq (g2 := F0 m 17 ls [.ref a7]) rfl ?_
      refine lv_aload_n hx hb dX10_event_17 rfl (lv_at hl 0 rfl) ?_
      obtain ⟨z8, e8, hf⟩ := ob hf
      refine r_gI C hw e8 ck10 rfl (by decide) w1010 dX10_event_18 ?_
      refine lv_iload_n hx hb dX10_event_21 rfl (lv_at hl 1 rfl) ?_
      obtain ⟨h9, e9, hf⟩ := ob hf
      refine r_iast C hw e9 dX10_event_22 (fun H locs hw => ?_)
      refine lv_aload_n hx hb dX10_event_23 rfl (lv_at hl 0 rfl) ?_
      obtain ⟨z10, e10, hf⟩ := ob hf
      refine r_gR C hw e10 ck10 rfl (by decide) w1009 dX10_event_24 ?_
      cases z10 with
      | none =>
        have hf := on_n hf
        cases hf
      | some a11 =>
        have hf := on_s hf
        refine W.eq (g2 := F0 m 27 ls [.ref a11]) rfl ?_
        refine lv_aload_n hx hb dX10_event_27 rfl (lv_at hl 0 rfl) ?_
        obtain ⟨z12, e12, hf⟩ := ob hf
        refine r_gI C hw e12 ck10 rfl (by decide) w1010 dX10_event_28 ?_
        refine lv_iload_n hx hb dX10_event_31 rfl (lv_at hl 2 rfl) ?_
        obtain ⟨h13, e13, hf⟩ := ob hf
        refine r_zast C hw e13 dX10_event_32 (fun H locs hw => ?_)
        refine lv_aload_n hx hb dX10_event_33 rfl (lv_at hl 0 rfl) ?_
        obtain ⟨z14, e14, hf⟩ := ob hf
        refine r_gR C hw e14 ck10 rfl (by decide) w1008 dX10_event_34 ?_
        cases z14 with
        | none =>
          have hf := on_n hf
          cases hf
        | some a15 =>
          have hf := on_s hf
          refine W.eq (g2 := F0 m 37 ls [.ref a15]) rfl ?_
          refine lv_aload_n hx hb dX10_event_37 rfl (lv_at hl 0 rfl) ?_
          obtain ⟨z16, e16, hf⟩ := ob hf
          refine r_gI C hw e16 ck10 rfl (by decide) w1010 dX10_event_38 ?_
          refine lv_iload_n hx hb dX10_event_41 rfl (lv_at hl 3 rfl) ?_
          obtain ⟨h17, e17, hf⟩ := ob hf
          refine r_iast C hw e17 dX10_event_42 (fun H locs hw => ?_)
          refine lv_aload_n hx hb dX10_event_43 rfl (lv_at hl 0 rfl) ?_
          refine lv_dup hx hb dX10_event_44 rfl ?_
          obtain ⟨z18, e18, hf⟩ := ob hf
          refine r_gI C hw e18 ck10 rfl (by decide) w1010 dX10_event_45 ?_
          refine lv_iconst (v := (1 : Int32)) hx hb dX10_event_48 (by decide) ?_
          refine lv_iadd hx hb dX10_event_49 ?_
          obtain ⟨h19, e19, hf⟩ := ob hf
          refine r_pI C hw e19 ck10 rfl (by decide) rfl w1010 (Or.inl rfl) dX10_event_50 (fun H locs hw => ?_)
          obtain ⟨rfl, rfl⟩ := sp hf
          exact r_vret C hw rfl (by omega) (by omega) dX10_event_53
theorem kXX10_event : MK yX10_event cX10_event 4 none 3 := ⟨w1260, w8, by decide +kernel⟩
theorem mX10_event {D : va_G} {cy : Nat → ClassId} {s0 : Nat} {l : Launch} {x0 : Nat} {x1 : Int32} {x2 : Int32} {x3 : Int32} {h : Hp} {v : Unit} {h1 : Hp} (hf : fX10_event x0 x1 x2 x3 h = some (v, h1)) : MT D cy s0 l yX10_event cX10_event 4 none rX10_event [.ref x0, .int x1, .int x2, .int x3] h none h1 := by
  refine MT.of (by decide +kernel) (Nat.le_of_ble_eq_true rfl) ?_
  intro p e s m below meth c H locs ls C hn hw hl
  exact bX10_event C hn _ _ _ _ _ _ hf _ _ _ _ _ (Nat.le_of_ble_eq_true rfl) (Nat.le_of_ble_eq_true rfl) hw hl
abbrev rX10_put : Room := { frames := 1, cells := 0, slots := 0, locals := 23 }
abbrev pX10_put_29 (D : va_G) (cy : Nat → ClassId) (s0 : Nat) (p : Program) (l : Launch) (e : Env) (s : State) (m : MethodId) (args : Array Value) (below : List Frame) (meth : Method) (c : Code) (r : Unit × Hp) (x0 : Nat) (x1 : Int32) (x2 : Int32) (x3 : Int32) (h : Hp) : Prop := ∀ (H : Heap) (locs : List Loc) (ls : Array Slot) (cells slots : Nat), cells + (0) ≤ 0 → slots + (0) ≤ 0 → WS D cy s0 s h H locs → lv_has ls 4 [(0, .ref x0), (1, .int x1), (2, .int x2), (3, .int x3)] → W p l e rX10_put s m args below meth c H locs cells slots (MQ below (QQ D cy s0 none r.2) args s 0 0 (fun q => s0 ≤ q)) (F0 m 29 ls [])
abbrev pX10_put (D : va_G) (cy : Nat → ClassId) (s0 : Nat) (p : Program) (l : Launch) (e : Env) (s : State) (m : MethodId) (args : Array Value) (below : List Frame) (meth : Method) (c : Code) (r : Unit × Hp) (x0 : Nat) (x1 : Int32) (x2 : Int32) (x3 : Int32) (h : Hp) : Prop := ∀ (H : Heap) (locs : List Loc) (ls : Array Slot) (cells slots : Nat), cells + (0) ≤ 0 → slots + (0) ≤ 0 → WS D cy s0 s h H locs → lv_has ls 4 [(0, .ref x0), (1, .int x1), (2, .int x2), (3, .int x3)] → W p l e rX10_put s m args below meth c H locs cells slots (MQ below (QQ D cy s0 none r.2) args s 0 0 (fun q => s0 ≤ q)) (F0 m 0 ls [])
set_option maxRecDepth 100000 in
set_option maxHeartbeats 4000000 in
theorem bX10_put_29 {D : va_G} {cy : Nat → ClassId} {s0 : Nat} {p : Program} {l : Launch} {e : Env} {s : State} {m : MethodId} {args : Array Value} {below : List Frame} {meth : Method} {c : Code} (C : CX D cy s0 p s m args meth c cX10_put 4 RX10 none) (hn : meth.name = "put") : ∀ (x0 : Nat) (x1 : Int32) (x2 : Int32) (x3 : Int32) (h : Hp) (r : Unit × Hp), fX10_put_29 x0 x1 x2 x3 h = some r → pX10_put_29 D cy s0 p l e s m args below meth c r x0 x1 x2 x3 h := by
  intro x0 x1 x2 x3 h ⟨rv, rh⟩ hf H locs ls cells slots hc hs hw hl
  unfold fX10_put_29 at hf
  have hx := C.1
  have hb := C.2.1
  refine lv_aload_n hx hb dX10_put_29 rfl (lv_at hl 0 rfl) ?_
  obtain ⟨z1, e1, hf⟩ := ob hf
  refine r_gR C hw e1 ck10 rfl (by decide) w996 dX10_put_30 ?_
  cases z1 with
  | none =>
    have hf := on_n hf
    cases hf
  | some a2 =>
    have hf := on_s hf
    refine W.eq (g2 := F0 m 33 ls [.ref a2]) rfl ?_
    refine lv_iload_n hx hb dX10_put_33 rfl (lv_at hl 1 rfl) ?_
    refine lv_dup2_11 hx hb dX10_put_34 rfl rfl ?_
    obtain ⟨z3, e3, hf⟩ := ob hf
    refine r_iald C hw e3 dX10_put_35 ?_
    refine lv_iconst (v := (1 : Int32)) hx hb dX10_put_36 (by decide) ?_
    refine lv_iadd hx hb dX10_put_37 ?_
    obtain ⟨h4, e4, hf⟩ := ob hf
    refine r_iast C hw e4 dX10_put_38 (fun H locs hw => ?_)
    refine lv_aload_n hx hb dX10_put_39 rfl (lv_at hl 0 rfl) ?_
    obtain ⟨z5, e5, hf⟩ := ob hf
    refine r_gR C hw e5 ck10 rfl (by decide) w998 dX10_put_40 ?_
    cases z5 with
    | none =>
      have hf := on_n hf
      cases hf
    | some a6 =>
      have hf := on_s hf
      refine W.eq (g2 := F0 m 43 ls [.ref a6]) rfl ?_
      refine lv_iload_n hx hb dX10_put_43 rfl (lv_at hl 1 rfl) ?_
      refine lv_aload_n hx hb dX10_put_44 rfl (lv_at hl 0 rfl) ?_
      obtain ⟨z7, e7, hf⟩ := ob hf
      refine r_gI C hw e7 ck10 rfl (by decide) w1003 dX10_put_45 ?_
      obtain ⟨h8, e8, hf⟩ := ob hf
      refine r_iast C hw e8 dX10_put_48 (fun H locs hw => ?_)
      refine lv_aload_n hx hb dX10_put_49 rfl (lv_at hl 0 rfl) ?_
      obtain ⟨z9, e9, hf⟩ := ob hf
      refine r_gR C hw e9 ck10 rfl (by decide) w999 dX10_put_50 ?_
      cases z9 with
      | none =>
        have hf := on_n hf
        cases hf
      | some a10 =>
        have hf := on_s hf
        refine W.eq (g2 := F0 m 53 ls [.ref a10]) rfl ?_
        refine lv_iload_n hx hb dX10_put_53 rfl (lv_at hl 1 rfl) ?_
        refine lv_iload_n hx hb dX10_put_54 rfl (lv_at hl 2 rfl) ?_
        obtain ⟨h11, e11, hf⟩ := ob hf
        refine r_iast C hw e11 dX10_put_55 (fun H locs hw => ?_)
        refine lv_aload_n hx hb dX10_put_56 rfl (lv_at hl 0 rfl) ?_
        obtain ⟨z12, e12, hf⟩ := ob hf
        refine r_gR C hw e12 ck10 rfl (by decide) w1000 dX10_put_57 ?_
        cases z12 with
        | none =>
          have hf := on_n hf
          cases hf
        | some a13 =>
          have hf := on_s hf
          refine W.eq (g2 := F0 m 60 ls [.ref a13]) rfl ?_
          refine lv_iload_n hx hb dX10_put_60 rfl (lv_at hl 1 rfl) ?_
          refine lv_iload_n hx hb dX10_put_61 rfl (lv_at hl 3 rfl) ?_
          obtain ⟨h14, e14, hf⟩ := ob hf
          refine r_iast C hw e14 dX10_put_62 (fun H locs hw => ?_)
          refine lv_aload_n hx hb dX10_put_63 rfl (lv_at hl 0 rfl) ?_
          refine lv_iload_n hx hb dX10_put_64 rfl (lv_at hl 1 rfl) ?_
          refine lv_iconst (v := (1 : Int32)) hx hb dX10_put_65 (by decide) ?_
          refine lv_iload_n hx hb dX10_put_66 rfl (lv_at hl 2 rfl) ?_
          obtain ⟨kb15, hf⟩ := ig hf
          obtain ⟨z15, h15, e15, hf⟩ := ob2 hf
          refine r_callV C hw (mX10_event e15) kXX10_event ck10 rfl kb15 w1257 w1259 v56 ⟨Nat.le_of_ble_eq_true rfl, Nat.le_of_ble_eq_true rfl⟩ rfl hl.1 (rest := []) rfl (Nat.le_of_ble_eq_true rfl) dX10_put_67 (mc := 0) (ms := 0) rfl rfl ⟨by show _ + 0 ≤ 0; omega, by show _ + 0 ≤ 0; omega⟩ (fun H locs hw => ?_)
          refine W.eq (g2 := F0 m 70 ls []) rfl ?_
          obtain ⟨rfl, rfl⟩ := sp hf
          exact r_vret C hw rfl (by omega) (by omega) dX10_put_70
set_option maxRecDepth 100000 in
set_option maxHeartbeats 4000000 in
theorem bX10_put {D : va_G} {cy : Nat → ClassId} {s0 : Nat} {p : Program} {l : Launch} {e : Env} {s : State} {m : MethodId} {args : Array Value} {below : List Frame} {meth : Method} {c : Code} (C : CX D cy s0 p s m args meth c cX10_put 4 RX10 none) (hn : meth.name = "put") : ∀ (x0 : Nat) (x1 : Int32) (x2 : Int32) (x3 : Int32) (h : Hp) (r : Unit × Hp), fX10_put x0 x1 x2 x3 h = some r → pX10_put D cy s0 p l e s m args below meth c r x0 x1 x2 x3 h := by
  intro x0 x1 x2 x3 h ⟨rv, rh⟩ hf H locs ls cells slots hc hs hw hl
  unfold fX10_put at hf
  have hx := C.1
  have hb := C.2.1
  refine lv_aload_n hx hb dX10_put_0 rfl (lv_at hl 0 rfl) ?_
  refine lv_dup hx hb dX10_put_1 rfl ?_
  obtain ⟨z1, e1, hf⟩ := ob hf
  refine r_gI C hw e1 ck10 rfl (by decide) w1003 dX10_put_2 ?_
  refine lv_iconst (v := (1 : Int32)) hx hb dX10_put_5 (by decide) ?_
  refine lv_iadd hx hb dX10_put_6 ?_
  obtain ⟨h2, e2, hf⟩ := ob hf
  refine r_pI C hw e2 ck10 rfl (by decide) rfl w1003 (Or.inl rfl) dX10_put_7 (fun H locs hw => ?_)
  refine lv_aload_n hx hb dX10_put_10 rfl (lv_at hl 0 rfl) ?_
  obtain ⟨z3, e3, hf⟩ := ob hf
  refine r_gR C hw e3 ck10 rfl (by decide) w996 dX10_put_11 ?_
  cases z3 with
  | none =>
    have hf := on_n hf
    cases hf
  | some a4 =>
    have hf := on_s hf
    refine W.eq (g2 := F0 m 14 ls [.ref a4]) rfl ?_
    refine lv_iload_n hx hb dX10_put_14 rfl (lv_at hl 1 rfl) ?_
    obtain ⟨z5, e5, hf⟩ := ob hf
    refine r_iald C hw e5 dX10_put_15 ?_
    refine lv_if_ne (tgt := 29) hx hb dX10_put_16 (by decide) (fun c6 => ?_) (fun c6 => ?_)
    · have hf := ie hf c6
      exact bX10_put_29 C hn _ _ _ _ _ _ hf _ _ _ _ _ (by omega) (by omega) hw (lv_sub hl [0, 1, 2, 3] rfl)
    · have hf := ip hf c6
      refine lv_aload_n hx hb dX10_put_19 rfl (lv_at hl 0 rfl) ?_
      obtain ⟨z7, e7, hf⟩ := ob hf
      refine r_gR C hw e7 ck10 rfl (by decide) w997 dX10_put_20 ?_
      cases z7 with
      | none =>
        have hf := on_n hf
        cases hf
      | some a8 =>
        have hf := on_s hf
        refine W.eq (g2 := F0 m 23 ls [.ref a8]) rfl ?_
        refine lv_iload_n hx hb dX10_put_23 rfl (lv_at hl 1 rfl) ?_
        refine lv_aload_n hx hb dX10_put_24 rfl (lv_at hl 0 rfl) ?_
        obtain ⟨z9, e9, hf⟩ := ob hf
        refine r_gI C hw e9 ck10 rfl (by decide) w1003 dX10_put_25 ?_
        obtain ⟨h10, e10, hf⟩ := ob hf
        refine r_iast C hw e10 dX10_put_28 (fun H locs hw => ?_)
        exact bX10_put_29 C hn _ _ _ _ _ _ hf _ _ _ _ _ (by omega) (by omega) hw (lv_sub hl [0, 1, 2, 3] rfl)
theorem kXX10_put : MK yX10_put cX10_put 4 none 3 := ⟨w1256, w8, by decide +kernel⟩
theorem mX10_put {D : va_G} {cy : Nat → ClassId} {s0 : Nat} {l : Launch} {x0 : Nat} {x1 : Int32} {x2 : Int32} {x3 : Int32} {h : Hp} {v : Unit} {h1 : Hp} (hf : fX10_put x0 x1 x2 x3 h = some (v, h1)) : MT D cy s0 l yX10_put cX10_put 4 none rX10_put [.ref x0, .int x1, .int x2, .int x3] h none h1 := by
  refine MT.of (by decide +kernel) (Nat.le_of_ble_eq_true rfl) ?_
  intro p e s m below meth c H locs ls C hn hw hl
  exact bX10_put C hn _ _ _ _ _ _ hf _ _ _ _ _ (Nat.le_of_ble_eq_true rfl) (Nat.le_of_ble_eq_true rfl) hw hl
abbrev rX10_gone : Room := { frames := 1, cells := 0, slots := 0, locals := 23 }
abbrev pX10_gone (D : va_G) (cy : Nat → ClassId) (s0 : Nat) (p : Program) (l : Launch) (e : Env) (s : State) (m : MethodId) (args : Array Value) (below : List Frame) (meth : Method) (c : Code) (r : Unit × Hp) (x0 : Nat) (x1 : Int32) (h : Hp) : Prop := ∀ (H : Heap) (locs : List Loc) (ls : Array Slot) (cells slots : Nat), cells + (0) ≤ 0 → slots + (0) ≤ 0 → WS D cy s0 s h H locs → lv_has ls 2 [(0, .ref x0), (1, .int x1)] → W p l e rX10_gone s m args below meth c H locs cells slots (MQ below (QQ D cy s0 none r.2) args s 0 0 (fun q => s0 ≤ q)) (F0 m 0 ls [])
set_option maxRecDepth 100000 in
set_option maxHeartbeats 4000000 in
theorem bX10_gone {D : va_G} {cy : Nat → ClassId} {s0 : Nat} {p : Program} {l : Launch} {e : Env} {s : State} {m : MethodId} {args : Array Value} {below : List Frame} {meth : Method} {c : Code} (C : CX D cy s0 p s m args meth c cX10_gone 2 RX10 none) (hn : meth.name = "gone") : ∀ (x0 : Nat) (x1 : Int32) (h : Hp) (r : Unit × Hp), fX10_gone x0 x1 h = some r → pX10_gone D cy s0 p l e s m args below meth c r x0 x1 h := by
  intro x0 x1 h ⟨rv, rh⟩ hf H locs ls cells slots hc hs hw hl
  unfold fX10_gone at hf
  have hx := C.1
  have hb := C.2.1
  refine lv_aload_n hx hb dX10_gone_0 rfl (lv_at hl 0 rfl) ?_
  obtain ⟨z1, e1, hf⟩ := ob hf
  refine r_gR C hw e1 ck10 rfl (by decide) w996 dX10_gone_1 ?_
  cases z1 with
  | none =>
    have hf := on_n hf
    cases hf
  | some a2 =>
    have hf := on_s hf
    refine W.eq (g2 := F0 m 4 ls [.ref a2]) rfl ?_
    refine lv_iload_n hx hb dX10_gone_4 rfl (lv_at hl 1 rfl) ?_
    refine lv_iconst (v := (0 : Int32)) hx hb dX10_gone_5 (by decide) ?_
    obtain ⟨h3, e3, hf⟩ := ob hf
    refine r_iast C hw e3 dX10_gone_6 (fun H locs hw => ?_)
    refine lv_aload_n hx hb dX10_gone_7 rfl (lv_at hl 0 rfl) ?_
    obtain ⟨z4, e4, hf⟩ := ob hf
    refine r_gR C hw e4 ck10 rfl (by decide) w997 dX10_gone_8 ?_
    cases z4 with
    | none =>
      have hf := on_n hf
      cases hf
    | some a5 =>
      have hf := on_s hf
      refine W.eq (g2 := F0 m 11 ls [.ref a5]) rfl ?_
      refine lv_iload_n hx hb dX10_gone_11 rfl (lv_at hl 1 rfl) ?_
      refine lv_iconst (v := (0 : Int32)) hx hb dX10_gone_12 (by decide) ?_
      obtain ⟨h6, e6, hf⟩ := ob hf
      refine r_iast C hw e6 dX10_gone_13 (fun H locs hw => ?_)
      refine lv_aload_n hx hb dX10_gone_14 rfl (lv_at hl 0 rfl) ?_
      obtain ⟨z7, e7, hf⟩ := ob hf
      refine r_gR C hw e7 ck10 rfl (by decide) w998 dX10_gone_15 ?_
      cases z7 with
      | none =>
        have hf := on_n hf
        cases hf
      | some a8 =>
        have hf := on_s hf
        refine W.eq (g2 := F0 m 18 ls [.ref a8]) rfl ?_
        refine lv_iload_n hx hb dX10_gone_18 rfl (lv_at hl 1 rfl) ?_
        refine lv_iconst (v := (0 : Int32)) hx hb dX10_gone_19 (by decide) ?_
        obtain ⟨h9, e9, hf⟩ := ob hf
        refine r_iast C hw e9 dX10_gone_20 (fun H locs hw => ?_)
        refine lv_aload_n hx hb dX10_gone_21 rfl (lv_at hl 0 rfl) ?_
        obtain ⟨z10, e10, hf⟩ := ob hf
        refine r_gR C hw e10 ck10 rfl (by decide) w999 dX10_gone_22 ?_
        cases z10 with
        | none =>
          have hf := on_n hf
          cases hf
        | some a11 =>
          have hf := on_s hf
          refine W.eq (g2 := F0 m 25 ls [.ref a11]) rfl ?_
          refine lv_iload_n hx hb dX10_gone_25 rfl (lv_at hl 1 rfl) ?_
          refine lv_iconst (v := (0 : Int32)) hx hb dX10_gone_26 (by decide) ?_
          obtain ⟨h12, e12, hf⟩ := ob hf
          refine r_iast C hw e12 dX10_gone_27 (fun H locs hw => ?_)
          refine lv_aload_n hx hb dX10_gone_28 rfl (lv_at hl 0 rfl) ?_
          obtain ⟨z13, e13, hf⟩ := ob hf
          refine r_gR C hw e13 ck10 rfl (by decide) w1000 dX10_gone_29 ?_
          cases z13 with
          | none =>
            have hf := on_n hf
            cases hf
          | some a14 =>
            have hf := on_s hf
            refine W.eq (g2 := F0 m 32 ls [.ref a14]) rfl ?_
            refine lv_iload_n hx hb dX10_gone_32 rfl (lv_at hl 1 rfl) ?_
            refine lv_iconst (v := (0 : Int32)) hx hb dX10_gone_33 (by decide) ?_
            obtain ⟨h15, e15, hf⟩ := ob hf
            refine r_iast C hw e15 dX10_gone_34 (fun H locs hw => ?_)
            refine lv_aload_n hx hb dX10_gone_35 rfl (lv_at hl 0 rfl) ?_
            refine lv_iload_n hx hb dX10_gone_36 rfl (lv_at hl 1 rfl) ?_
            refine lv_iconst (v := (0 : Int32)) hx hb dX10_gone_37 (by decide) ?_
            refine lv_iconst (v := (0 : Int32)) hx hb dX10_gone_38 (by decide) ?_
            obtain ⟨kb16, hf⟩ := ig hf
            obtain ⟨z16, h16, e16, hf⟩ := ob2 hf
            refine r_callV C hw (mX10_event e16) kXX10_event ck10 rfl kb16 w1257 w1259 v56 ⟨Nat.le_of_ble_eq_true rfl, Nat.le_of_ble_eq_true rfl⟩ rfl hl.1 (rest := []) rfl (Nat.le_of_ble_eq_true rfl) dX10_gone_39 (mc := 0) (ms := 0) rfl rfl ⟨by show _ + 0 ≤ 0; omega, by show _ + 0 ≤ 0; omega⟩ (fun H locs hw => ?_)
            refine W.eq (g2 := F0 m 42 ls []) rfl ?_
            obtain ⟨rfl, rfl⟩ := sp hf
            exact r_vret C hw rfl (by omega) (by omega) dX10_gone_42
theorem kXX10_gone : MK yX10_gone cX10_gone 2 none 1 := ⟨w1268, w8, by decide +kernel⟩
theorem mX10_gone {D : va_G} {cy : Nat → ClassId} {s0 : Nat} {l : Launch} {x0 : Nat} {x1 : Int32} {h : Hp} {v : Unit} {h1 : Hp} (hf : fX10_gone x0 x1 h = some (v, h1)) : MT D cy s0 l yX10_gone cX10_gone 2 none rX10_gone [.ref x0, .int x1] h none h1 := by
  refine MT.of (by decide +kernel) (Nat.le_of_ble_eq_true rfl) ?_
  intro p e s m below meth c H locs ls C hn hw hl
  exact bX10_gone C hn _ _ _ _ hf _ _ _ _ _ (Nat.le_of_ble_eq_true rfl) (Nat.le_of_ble_eq_true rfl) hw hl
