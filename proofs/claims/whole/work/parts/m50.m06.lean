abbrev rX10_work : Room := { frames := 4, cells := 0, slots := 0, locals := 98 }
abbrev pX10_work_291 (D : va_G) (cy : Nat → ClassId) (s0 : Nat) (p : Program) (l : Launch) (e : Env) (s : State) (m : MethodId) (args : Array Value) (below : List Frame) (meth : Method) (c : Code) (r : Unit × Hp) (x0 : Nat) (x1 : Int32) (x2 : Int32) (h : Hp) : Prop := ∀ (H : Heap) (locs : List Loc) (ls : Array Slot) (cells slots : Nat), cells + (0) ≤ 0 → slots + (0) ≤ 0 → WS D cy s0 s h H locs → lv_has ls 5 [(0, .ref x0), (1, .int x1), (2, .int x2)] → W p l e rX10_work s m args below meth c H locs cells slots (MQ below (QQ D cy s0 none r.2) args s 0 0 (fun q => s0 ≤ q)) (F0 m 291 ls [])
abbrev pX10_work_184 (D : va_G) (cy : Nat → ClassId) (s0 : Nat) (p : Program) (l : Launch) (e : Env) (s : State) (m : MethodId) (args : Array Value) (below : List Frame) (meth : Method) (c : Code) (r : Unit × Hp) (x0 : Nat) (x1 : Int32) (x2 : Int32) (h : Hp) : Prop := ∀ (H : Heap) (locs : List Loc) (ls : Array Slot) (cells slots : Nat), cells + (0) ≤ 0 → slots + (0) ≤ 0 → WS D cy s0 s h H locs → lv_has ls 5 [(0, .ref x0), (1, .int x1), (2, .int x2)] → W p l e rX10_work s m args below meth c H locs cells slots (MQ below (QQ D cy s0 none r.2) args s 0 0 (fun q => s0 ≤ q)) (F0 m 184 ls [])
abbrev pX10_work_169 (D : va_G) (cy : Nat → ClassId) (s0 : Nat) (p : Program) (l : Launch) (e : Env) (s : State) (m : MethodId) (args : Array Value) (below : List Frame) (meth : Method) (c : Code) (r : Unit × Hp) (x0 : Nat) (x1 : Int32) (x2 : Int32) (h : Hp) : Prop := ∀ (H : Heap) (locs : List Loc) (ls : Array Slot) (cells slots : Nat), cells + (0) ≤ 0 → slots + (0) ≤ 0 → WS D cy s0 s h H locs → lv_has ls 5 [(0, .ref x0), (1, .int x1), (2, .int x2)] → W p l e rX10_work s m args below meth c H locs cells slots (MQ below (QQ D cy s0 none r.2) args s 0 0 (fun q => s0 ≤ q)) (F0 m 169 ls [])
abbrev pX10_work_123 (D : va_G) (cy : Nat → ClassId) (s0 : Nat) (p : Program) (l : Launch) (e : Env) (s : State) (m : MethodId) (args : Array Value) (below : List Frame) (meth : Method) (c : Code) (r : Unit × Hp) (x0 : Nat) (x1 : Int32) (x2 : Int32) (x4 : Int32) (h : Hp) : Prop := ∀ (H : Heap) (locs : List Loc) (ls : Array Slot) (cells slots : Nat), cells + (0) ≤ 0 → slots + (0) ≤ 0 → WS D cy s0 s h H locs → lv_has ls 5 [(0, .ref x0), (1, .int x1), (2, .int x2), (4, .int x4)] → W p l e rX10_work s m args below meth c H locs cells slots (MQ below (QQ D cy s0 none r.2) args s 0 0 (fun q => s0 ≤ q)) (F0 m 123 ls [])
abbrev pX10_work_67 (D : va_G) (cy : Nat → ClassId) (s0 : Nat) (p : Program) (l : Launch) (e : Env) (s : State) (m : MethodId) (args : Array Value) (below : List Frame) (meth : Method) (c : Code) (r : Unit × Hp) (x0 : Nat) (x1 : Int32) (x2 : Int32) (x4 : Int32) (h : Hp) : Prop := ∀ (H : Heap) (locs : List Loc) (ls : Array Slot) (cells slots : Nat), cells + (0) ≤ 0 → slots + (0) ≤ 0 → WS D cy s0 s h H locs → lv_has ls 5 [(0, .ref x0), (1, .int x1), (2, .int x2), (4, .int x4)] → W p l e rX10_work s m args below meth c H locs cells slots (MQ below (QQ D cy s0 none r.2) args s 0 0 (fun q => s0 ≤ q)) (F0 m 67 ls [])
abbrev pX10_work_59 (D : va_G) (cy : Nat → ClassId) (s0 : Nat) (p : Program) (l : Launch) (e : Env) (s : State) (m : MethodId) (args : Array Value) (below : List Frame) (meth : Method) (c : Code) (r : Unit × Hp) (x0 : Nat) (x1 : Int32) (x2 : Int32) (y0 : Int32) (h : Hp) : Prop := ∀ (H : Heap) (locs : List Loc) (ls : Array Slot) (cells slots : Nat), cells + (0) ≤ 0 → slots + (0) ≤ 0 → WS D cy s0 s h H locs → lv_has ls 5 [(0, .ref x0), (1, .int x1), (2, .int x2)] → W p l e rX10_work s m args below meth c H locs cells slots (MQ below (QQ D cy s0 none r.2) args s 0 0 (fun q => s0 ≤ q)) (F0 m 59 ls [.int y0])
abbrev pX10_work_58 (D : va_G) (cy : Nat → ClassId) (s0 : Nat) (p : Program) (l : Launch) (e : Env) (s : State) (m : MethodId) (args : Array Value) (below : List Frame) (meth : Method) (c : Code) (r : Unit × Hp) (x0 : Nat) (x1 : Int32) (x2 : Int32) (h : Hp) : Prop := ∀ (H : Heap) (locs : List Loc) (ls : Array Slot) (cells slots : Nat), cells + (0) ≤ 0 → slots + (0) ≤ 0 → WS D cy s0 s h H locs → lv_has ls 5 [(0, .ref x0), (1, .int x1), (2, .int x2)] → W p l e rX10_work s m args below meth c H locs cells slots (MQ below (QQ D cy s0 none r.2) args s 0 0 (fun q => s0 ≤ q)) (F0 m 58 ls [])
abbrev pX10_work_24 (D : va_G) (cy : Nat → ClassId) (s0 : Nat) (p : Program) (l : Launch) (e : Env) (s : State) (m : MethodId) (args : Array Value) (below : List Frame) (meth : Method) (c : Code) (r : Unit × Hp) (x0 : Nat) (x1 : Int32) (y0 : Int32) (h : Hp) : Prop := ∀ (H : Heap) (locs : List Loc) (ls : Array Slot) (cells slots : Nat), cells + (0) ≤ 0 → slots + (0) ≤ 0 → WS D cy s0 s h H locs → lv_has ls 5 [(0, .ref x0), (1, .int x1)] → W p l e rX10_work s m args below meth c H locs cells slots (MQ below (QQ D cy s0 none r.2) args s 0 0 (fun q => s0 ≤ q)) (F0 m 24 ls [.int y0])
abbrev pX10_work (D : va_G) (cy : Nat → ClassId) (s0 : Nat) (p : Program) (l : Launch) (e : Env) (s : State) (m : MethodId) (args : Array Value) (below : List Frame) (meth : Method) (c : Code) (r : Unit × Hp) (x0 : Nat) (x1 : Int32) (h : Hp) : Prop := ∀ (H : Heap) (locs : List Loc) (ls : Array Slot) (cells slots : Nat), cells + (0) ≤ 0 → slots + (0) ≤ 0 → WS D cy s0 s h H locs → lv_has ls 5 [(0, .ref x0), (1, .int x1)] → W p l e rX10_work s m args below meth c H locs cells slots (MQ below (QQ D cy s0 none r.2) args s 0 0 (fun q => s0 ≤ q)) (F0 m 0 ls [])
set_option maxRecDepth 100000 in
set_option maxHeartbeats 4000000 in
theorem bX10_work_291_body {D : va_G} {cy : Nat → ClassId} {s0 : Nat} {p : Program} {l : Launch} {e : Env} {s : State} {m : MethodId} {args : Array Value} {below : List Frame} {meth : Method} {c : Code} (C : CX D cy s0 p s m args meth c cX10_work 5 RX10 none) (hn : meth.name = "work") {k184 : Nat → Int32 → Int32 → Hp → Option (Unit × Hp)} (hk184 : ∀ (x0 : Nat) (x1 : Int32) (x2 : Int32) (h : Hp) (r : Unit × Hp), k184 x0 x1 x2 h = some r → pX10_work_184 D cy s0 p l e s m args below meth c r x0 x1 x2 h) {k291 : Nat → Int32 → Int32 → Hp → Option (Unit × Hp)} (hk291 : ∀ (x0 : Nat) (x1 : Int32) (x2 : Int32) (h : Hp) (r : Unit × Hp), k291 x0 x1 x2 h = some r → pX10_work_291 D cy s0 p l e s m args below meth c r x0 x1 x2 h) : ∀ (x0 : Nat) (x1 : Int32) (x2 : Int32) (h : Hp) (r : Unit × Hp), fX10_work_291_body k184 k291 x0 x1 x2 h = some r → pX10_work_291 D cy s0 p l e s m args below meth c r x0 x1 x2 h := by
  intro x0 x1 x2 h ⟨rv, rh⟩ hf H locs ls cells slots hc hs hw hl
  unfold fX10_work_291_body at hf
  have hx := C.1
  have hb := C.2.1
  refine lv_aload_n hx hb dX10_work_291 rfl (lv_at hl 0 rfl) ?_
  obtain ⟨z1, e1, hf⟩ := ob hf
  refine r_gI C hw e1 ck10 rfl (by decide) w1010 dX10_work_292 ?_
  refine lv_aload_n hx hb dX10_work_295 rfl (lv_at hl 0 rfl) ?_
  obtain ⟨kb2, hf⟩ := ig hf
  obtain ⟨z2, h2, e2, hf⟩ := ob2 hf
  refine r_callV C hw (mX10_firstEvent e2) kXX10_firstEvent ck10 rfl kb2 w1273 w1275 v60 ⟨Nat.le_of_ble_eq_true rfl, Nat.le_of_ble_eq_true rfl⟩ rfl hl.1 (rest := [.int z1]) rfl (Nat.le_of_ble_eq_true rfl) dX10_work_296 (mc := 0) (ms := 0) rfl rfl ⟨by show _ + 0 ≤ 0; omega, by show _ + 0 ≤ 0; omega⟩ (fun H locs hw => ?_)
  refine W.eq (g2 := F0 m 299 ls [.int z2, .int z1]) rfl ?_
  refine lv_isub hx hb dX10_work_299 ?_
  refine lv_sipush (v := (400 : Int32)) hx hb dX10_work_300 (by decide) ?_
  refine lv_icmp_le (tgt := 322) hx hb dX10_work_303 (by decide) (fun c3 => ?_) (fun c3 => ?_)
  · have hf := ip hf c3
    refine lv_goto (tgt := 184) hx hb dX10_work_322 (by decide) ?_
    exact hk184 _ _ _ _ _ hf _ _ _ _ _ (by omega) (by omega) hw (lv_sub hl [0, 1, 2] rfl)
  · have hf := ie hf c3
    refine lv_aload_n hx hb dX10_work_306 rfl (lv_at hl 0 rfl) ?_
    refine lv_aload_n hx hb dX10_work_307 rfl (lv_at hl 0 rfl) ?_
    obtain ⟨z4, e4, hf⟩ := ob hf
    refine r_gR C hw e4 ck10 rfl (by decide) w1006 dX10_work_308 ?_
    cases z4 with
    | none =>
      have hf := on_n hf
      cases hf
    | some a5 =>
      have hf := on_s hf
      refine W.eq (g2 := F0 m 311 ls [.ref a5, .ref x0]) rfl ?_
      refine lv_aload_n hx hb dX10_work_311 rfl (lv_at hl 0 rfl) ?_
      obtain ⟨kb6, hf⟩ := ig hf
      obtain ⟨z6, h6, e6, hf⟩ := ob2 hf
      refine r_callV C hw (mX10_firstEvent e6) kXX10_firstEvent ck10 rfl kb6 w1273 w1275 v60 ⟨Nat.le_of_ble_eq_true rfl, Nat.le_of_ble_eq_true rfl⟩ rfl hl.1 (rest := [.ref a5, .ref x0]) rfl (Nat.le_of_ble_eq_true rfl) dX10_work_312 (mc := 0) (ms := 0) rfl rfl ⟨by show _ + 0 ≤ 0; omega, by show _ + 0 ≤ 0; omega⟩ (fun H locs hw => ?_)
      refine W.eq (g2 := F0 m 315 ls [.int z6, .ref a5, .ref x0]) rfl ?_
      obtain ⟨z7, e7, hf⟩ := ob hf
      refine r_iald C hw e7 dX10_work_315 ?_
      obtain ⟨h8, e8, hf⟩ := ob hf
      refine r_pI C hw e8 ck10 rfl (by decide) rfl w1005 (Or.inl rfl) dX10_work_316 (fun H locs hw => ?_)
      refine lv_goto (tgt := 291) hx hb dX10_work_319 (by decide) ?_
      exact hk291 _ _ _ _ _ hf _ _ _ _ _ (by omega) (by omega) hw (lv_sub hl [0, 1, 2] rfl)
set_option maxRecDepth 100000 in
set_option maxHeartbeats 4000000 in
theorem bX10_work_291 {D : va_G} {cy : Nat → ClassId} {s0 : Nat} {p : Program} {l : Launch} {e : Env} {s : State} {m : MethodId} {args : Array Value} {below : List Frame} {meth : Method} {c : Code} (C : CX D cy s0 p s m args meth c cX10_work 5 RX10 none) (hn : meth.name = "work") {k184 : Nat → Int32 → Int32 → Hp → Option (Unit × Hp)} (hk184 : ∀ (x0 : Nat) (x1 : Int32) (x2 : Int32) (h : Hp) (r : Unit × Hp), k184 x0 x1 x2 h = some r → pX10_work_184 D cy s0 p l e s m args below meth c r x0 x1 x2 h) : ∀ (n : Nat) (x0 : Nat) (x1 : Int32) (x2 : Int32) (h : Hp) (r : Unit × Hp), fX10_work_291 k184 n x0 x1 x2 h = some r → pX10_work_291 D cy s0 p l e s m args below meth c r x0 x1 x2 h := by
  intro n
  induction n with
  | zero => intro x0 x1 x2 h r hf; exact absurd hf (fun q => by cases q)
  | succ n ih => exact bX10_work_291_body C hn hk184 ih
set_option maxRecDepth 100000 in
set_option maxHeartbeats 4000000 in
theorem bX10_work_184_body {D : va_G} {cy : Nat → ClassId} {s0 : Nat} {p : Program} {l : Launch} {e : Env} {s : State} {m : MethodId} {args : Array Value} {below : List Frame} {meth : Method} {c : Code} (C : CX D cy s0 p s m args meth c cX10_work 5 RX10 none) (hn : meth.name = "work") {k184 : Nat → Int32 → Int32 → Hp → Option (Unit × Hp)} (hk184 : ∀ (x0 : Nat) (x1 : Int32) (x2 : Int32) (h : Hp) (r : Unit × Hp), k184 x0 x1 x2 h = some r → pX10_work_184 D cy s0 p l e s m args below meth c r x0 x1 x2 h) : ∀ (x0 : Nat) (x1 : Int32) (x2 : Int32) (h : Hp) (r : Unit × Hp), fX10_work_184_body k184 x0 x1 x2 h = some r → pX10_work_184 D cy s0 p l e s m args below meth c r x0 x1 x2 h := by
  intro x0 x1 x2 h ⟨rv, rh⟩ hf H locs ls cells slots hc hs hw hl
  unfold fX10_work_184_body at hf
  have hx := C.1
  have hb := C.2.1
  refine lv_aload_n hx hb dX10_work_184 rfl (lv_at hl 0 rfl) ?_
  obtain ⟨z1, e1, hf⟩ := ob hf
  refine r_gI C hw e1 ck10 rfl (by decide) w1013 dX10_work_185 ?_
  refine lv_iload_n hx hb dX10_work_188 rfl (lv_at hl 2 rfl) ?_
  refine lv_icmp_ge (tgt := 325) hx hb dX10_work_189 (by decide) (fun c2 => ?_) (fun c2 => ?_)
  · have hf := ip hf c2
    obtain ⟨rfl, rfl⟩ := sp hf
    exact r_vret C hw rfl (by omega) (by omega) dX10_work_325
  · have hf := ie hf c2
    refine lv_aload_n hx hb dX10_work_192 rfl (lv_at hl 0 rfl) ?_
    refine lv_dup hx hb dX10_work_193 rfl ?_
    obtain ⟨z3, e3, hf⟩ := ob hf
    refine r_gI C hw e3 ck10 rfl (by decide) w1013 dX10_work_194 ?_
    refine lv_iconst (v := (1 : Int32)) hx hb dX10_work_197 (by decide) ?_
    refine lv_iadd hx hb dX10_work_198 ?_
    obtain ⟨h4, e4, hf⟩ := ob hf
    refine r_pI C hw e4 ck10 rfl (by decide) rfl w1013 (Or.inl rfl) dX10_work_199 (fun H locs hw => ?_)
    refine lv_aload_n hx hb dX10_work_202 rfl (lv_at hl 0 rfl) ?_
    refine lv_iload_n hx hb dX10_work_203 rfl (lv_at hl 1 rfl) ?_
    refine lv_aload_n hx hb dX10_work_204 rfl (lv_at hl 0 rfl) ?_
    obtain ⟨z5, e5, hf⟩ := ob hf
    refine r_gI C hw e5 ck10 rfl (by decide) w1013 dX10_work_205 ?_
    obtain ⟨kb6, hf⟩ := ig hf
    obtain ⟨z6, h6, e6, hf⟩ := ob2 hf
    refine r_callV C hw (mX10_at e6) kXX10_at ck10 rfl kb6 w1152 w1154 v40 ⟨Nat.le_of_ble_eq_true rfl, Nat.le_of_ble_eq_true rfl⟩ rfl hl.1 (rest := []) rfl (Nat.le_of_ble_eq_true rfl) dX10_work_208 (mc := 0) (ms := 0) rfl rfl ⟨by show _ + 0 ≤ 0; omega, by show _ + 0 ≤ 0; omega⟩ (fun H locs hw => ?_)
    refine W.eq (g2 := F0 m 211 ls [.int z6]) rfl ?_
    refine lv_istore (lv' := [(4, .int z6), (0, .ref x0), (1, .int x1), (2, .int x2)]) hx hb dX10_work_211 hl (by decide) rfl (fun ls hl => ?_)
    refine lv_aload_n hx hb dX10_work_213 rfl (lv_at hl 1 rfl) ?_
    obtain ⟨z7, e7, hf⟩ := ob hf
    refine r_gR C hw e7 ck10 rfl (by decide) w1011 dX10_work_214 ?_
    cases z7 with
    | none =>
      have hf := on_n hf
      cases hf
    | some a8 =>
      have hf := on_s hf
      refine W.eq (g2 := F0 m 217 ls [.ref a8]) rfl ?_
      refine lv_aload_n hx hb dX10_work_217 rfl (lv_at hl 1 rfl) ?_
      obtain ⟨z9, e9, hf⟩ := ob hf
      refine r_gI C hw e9 ck10 rfl (by decide) w1013 dX10_work_218 ?_
      refine lv_aload_n hx hb dX10_work_221 rfl (lv_at hl 1 rfl) ?_
      refine lv_aload_n hx hb dX10_work_222 rfl (lv_at hl 1 rfl) ?_
      obtain ⟨z10, e10, hf⟩ := ob hf
      refine r_gR C hw e10 ck10 rfl (by decide) w976 dX10_work_223 ?_
      cases z10 with
      | none =>
        have hf := on_n hf
        cases hf
      | some a11 =>
        have hf := on_s hf
        refine W.eq (g2 := F0 m 226 ls [.ref a11, .ref x0, .int z9, .ref a8]) rfl ?_
        refine lv_iload hx hb dX10_work_226 (lv_at hl 0 rfl) ?_
        refine lv_iconst (v := (1 : Int32)) hx hb dX10_work_228 (by decide) ?_
        refine lv_iadd hx hb dX10_work_229 ?_
        obtain ⟨z12, e12, hf⟩ := ob hf
        refine r_iald C hw e12 dX10_work_230 ?_
        refine lv_aload_n hx hb dX10_work_231 rfl (lv_at hl 1 rfl) ?_
        obtain ⟨z13, e13, hf⟩ := ob hf
        refine r_gR C hw e13 ck10 rfl (by decide) w976 dX10_work_232 ?_
        cases z13 with
        | none =>
          have hf := on_n hf
          cases hf
        | some a14 =>
          have hf := on_s hf
          refine W.eq (g2 := F0 m 235 ls [.ref a14, .int z12, .ref x0, .int z9, .ref a8]) rfl ?_
          refine lv_iload hx hb dX10_work_235 (lv_at hl 0 rfl) ?_
          refine lv_iconst (v := (2 : Int32)) hx hb dX10_work_237 (by decide) ?_
          refine lv_iadd hx hb dX10_work_238 ?_
          obtain ⟨z15, e15, hf⟩ := ob hf
          refine r_iald C hw e15 dX10_work_239 ?_
          refine lv_aload_n hx hb dX10_work_240 rfl (lv_at hl 1 rfl) ?_
          obtain ⟨z16, e16, hf⟩ := ob hf
          refine r_gR C hw e16 ck10 rfl (by decide) w976 dX10_work_241 ?_
          cases z16 with
          | none =>
            have hf := on_n hf
            cases hf
          | some a17 =>
            have hf := on_s hf
            refine W.eq (g2 := F0 m 244 ls [.ref a17, .int z15, .int z12, .ref x0, .int z9, .ref a8]) rfl ?_
            refine lv_iload hx hb dX10_work_244 (lv_at hl 0 rfl) ?_
            refine lv_iconst (v := (3 : Int32)) hx hb dX10_work_246 (by decide) ?_
            refine lv_iadd hx hb dX10_work_247 ?_
            obtain ⟨z18, e18, hf⟩ := ob hf
            refine r_iald C hw e18 dX10_work_248 ?_
            refine lv_aload_n hx hb dX10_work_249 rfl (lv_at hl 1 rfl) ?_
            obtain ⟨z19, e19, hf⟩ := ob hf
            refine r_gR C hw e19 ck10 rfl (by decide) w976 dX10_work_250 ?_
            cases z19 with
            | none =>
              have hf := on_n hf
              cases hf
            | some a20 =>
              have hf := on_s hf
              refine W.eq (g2 := F0 m 253 ls [.ref a20, .int z18, .int z15, .int z12, .ref x0, .int z9, .ref a8]) rfl ?_
              refine lv_iload hx hb dX10_work_253 (lv_at hl 0 rfl) ?_
              refine lv_iconst (v := (4 : Int32)) hx hb dX10_work_255 (by decide) ?_
              refine lv_iadd hx hb dX10_work_256 ?_
              obtain ⟨z21, e21, hf⟩ := ob hf
              refine r_iald C hw e21 dX10_work_257 ?_
              refine lv_aload_n hx hb dX10_work_258 rfl (lv_at hl 1 rfl) ?_
              obtain ⟨z22, e22, hf⟩ := ob hf
              refine r_gR C hw e22 ck10 rfl (by decide) w976 dX10_work_259 ?_
              cases z22 with
              | none =>
                have hf := on_n hf
                cases hf
              | some a23 =>
                have hf := on_s hf
                refine W.eq (g2 := F0 m 262 ls [.ref a23, .int z21, .int z18, .int z15, .int z12, .ref x0, .int z9, .ref a8]) rfl ?_
                refine lv_iload hx hb dX10_work_262 (lv_at hl 0 rfl) ?_
                refine lv_iconst (v := (5 : Int32)) hx hb dX10_work_264 (by decide) ?_
                refine lv_iadd hx hb dX10_work_265 ?_
                obtain ⟨z24, e24, hf⟩ := ob hf
                refine r_iald C hw e24 dX10_work_266 ?_
                refine lv_aload_n hx hb dX10_work_267 rfl (lv_at hl 1 rfl) ?_
                obtain ⟨z25, e25, hf⟩ := ob hf
                refine r_gR C hw e25 ck10 rfl (by decide) w976 dX10_work_268 ?_
                cases z25 with
                | none =>
                  have hf := on_n hf
                  cases hf
                | some a26 =>
                  have hf := on_s hf
                  refine W.eq (g2 := F0 m 271 ls [.ref a26, .int z24, .int z21, .int z18, .int z15, .int z12, .ref x0, .int z9, .ref a8]) rfl ?_
                  refine lv_iload hx hb dX10_work_271 (lv_at hl 0 rfl) ?_
                  refine lv_bipush (v := (6 : Int32)) hx hb dX10_work_273 (by decide) ?_
                  refine lv_iadd hx hb dX10_work_275 ?_
                  obtain ⟨z27, e27, hf⟩ := ob hf
                  refine r_iald C hw e27 dX10_work_276 ?_
                  refine lv_aload_n hx hb dX10_work_277 rfl (lv_at hl 1 rfl) ?_
                  obtain ⟨z28, e28, hf⟩ := ob hf
                  refine r_gR C hw e28 ck10 rfl (by decide) w976 dX10_work_278 ?_
                  cases z28 with
                  | none =>
                    have hf := on_n hf
                    cases hf
                  | some a29 =>
                    have hf := on_s hf
                    refine W.eq (g2 := F0 m 281 ls [.ref a29, .int z27, .int z24, .int z21, .int z18, .int z15, .int z12, .ref x0, .int z9, .ref a8]) rfl ?_
                    refine lv_iload hx hb dX10_work_281 (lv_at hl 0 rfl) ?_
                    refine lv_bipush (v := (7 : Int32)) hx hb dX10_work_283 (by decide) ?_
                    refine lv_iadd hx hb dX10_work_285 ?_
                    obtain ⟨z30, e30, hf⟩ := ob hf
                    refine r_iald C hw e30 dX10_work_286 ?_
                    obtain ⟨kb31, hf⟩ := ig hf
                    obtain ⟨z31, h31, e31, hf⟩ := ob2 hf
                    refine r_callV C hw (mX10_done e31) kXX10_done ck10 rfl kb31 w1249 w1251 v54 ⟨Nat.le_of_ble_eq_true rfl, Nat.le_of_ble_eq_true rfl⟩ rfl hl.1 (rest := [.int z9, .ref a8]) rfl (Nat.le_of_ble_eq_true rfl) dX10_work_287 (mc := 0) (ms := 0) rfl rfl ⟨by show _ + 0 ≤ 0; omega, by show _ + 0 ≤ 0; omega⟩ (fun H locs hw => ?_)
                    refine W.eq (g2 := F0 m 290 ls [.int z31, .int z9, .ref a8]) rfl ?_
                    obtain ⟨h32, e32, hf⟩ := ob hf
                    refine r_iast C hw e32 dX10_work_290 (fun H locs hw => ?_)
                    exact bX10_work_291 C hn hk184 LF _ _ _ _ _ hf _ _ _ _ _ (by omega) (by omega) hw (lv_sub hl [1, 2, 3] rfl)
set_option maxRecDepth 100000 in
set_option maxHeartbeats 4000000 in
theorem bX10_work_184 {D : va_G} {cy : Nat → ClassId} {s0 : Nat} {p : Program} {l : Launch} {e : Env} {s : State} {m : MethodId} {args : Array Value} {below : List Frame} {meth : Method} {c : Code} (C : CX D cy s0 p s m args meth c cX10_work 5 RX10 none) (hn : meth.name = "work") : ∀ (n : Nat) (x0 : Nat) (x1 : Int32) (x2 : Int32) (h : Hp) (r : Unit × Hp), fX10_work_184 n x0 x1 x2 h = some r → pX10_work_184 D cy s0 p l e s m args below meth c r x0 x1 x2 h := by
  intro n
  induction n with
  | zero => intro x0 x1 x2 h r hf; exact absurd hf (fun q => by cases q)
  | succ n ih => exact bX10_work_184_body C hn ih
set_option maxRecDepth 100000 in
set_option maxHeartbeats 4000000 in
theorem bX10_work_169 {D : va_G} {cy : Nat → ClassId} {s0 : Nat} {p : Program} {l : Launch} {e : Env} {s : State} {m : MethodId} {args : Array Value} {below : List Frame} {meth : Method} {c : Code} (C : CX D cy s0 p s m args meth c cX10_work 5 RX10 none) (hn : meth.name = "work") : ∀ (x0 : Nat) (x1 : Int32) (x2 : Int32) (h : Hp) (r : Unit × Hp), fX10_work_169 x0 x1 x2 h = some r → pX10_work_169 D cy s0 p l e s m args below meth c r x0 x1 x2 h := by
  intro x0 x1 x2 h ⟨rv, rh⟩ hf H locs ls cells slots hc hs hw hl
  unfold fX10_work_169 at hf
  have hx := C.1
  have hb := C.2.1
  refine lv_aload_n hx hb dX10_work_169 rfl (lv_at hl 0 rfl) ?_
  refine lv_iload_n hx hb dX10_work_170 rfl (lv_at hl 1 rfl) ?_
  obtain ⟨h1, e1, hf⟩ := ob hf
  refine r_pI C hw e1 ck10 rfl (by decide) rfl w1012 (Or.inl rfl) dX10_work_171 (fun H locs hw => ?_)
  refine lv_aload_n hx hb dX10_work_174 rfl (lv_at hl 0 rfl) ?_
  refine lv_aload_n hx hb dX10_work_175 rfl (lv_at hl 0 rfl) ?_
  obtain ⟨z2, e2, hf⟩ := ob hf
  refine r_gR C hw e2 ck10 rfl (by decide) w977 dX10_work_176 ?_
  cases z2 with
  | none =>
    have hf := on_n hf
    cases hf
  | some a3 =>
    have hf := on_s hf
    refine W.eq (g2 := F0 m 179 ls [.ref a3, .ref x0]) rfl ?_
    refine lv_iload_n hx hb dX10_work_179 rfl (lv_at hl 1 rfl) ?_
    obtain ⟨z4, e4, hf⟩ := ob hf
    refine r_iald C hw e4 dX10_work_180 ?_
    obtain ⟨h5, e5, hf⟩ := ob hf
    refine r_pI C hw e5 ck10 rfl (by decide) rfl w1014 (Or.inl rfl) dX10_work_181 (fun H locs hw => ?_)
    exact bX10_work_184 C hn LF _ _ _ _ _ hf _ _ _ _ _ (by omega) (by omega) hw (lv_sub hl [0, 1, 2] rfl)
set_option maxRecDepth 100000 in
set_option maxHeartbeats 4000000 in
theorem bX10_work_123_body {D : va_G} {cy : Nat → ClassId} {s0 : Nat} {p : Program} {l : Launch} {e : Env} {s : State} {m : MethodId} {args : Array Value} {below : List Frame} {meth : Method} {c : Code} (C : CX D cy s0 p s m args meth c cX10_work 5 RX10 none) (hn : meth.name = "work") {k123 : Nat → Int32 → Int32 → Int32 → Hp → Option (Unit × Hp)} (hk123 : ∀ (x0 : Nat) (x1 : Int32) (x2 : Int32) (x4 : Int32) (h : Hp) (r : Unit × Hp), k123 x0 x1 x2 x4 h = some r → pX10_work_123 D cy s0 p l e s m args below meth c r x0 x1 x2 x4 h) : ∀ (x0 : Nat) (x1 : Int32) (x2 : Int32) (x4 : Int32) (h : Hp) (r : Unit × Hp), fX10_work_123_body k123 x0 x1 x2 x4 h = some r → pX10_work_123 D cy s0 p l e s m args below meth c r x0 x1 x2 x4 h := by
  intro x0 x1 x2 x4 h ⟨rv, rh⟩ hf H locs ls cells slots hc hs hw hl
  unfold fX10_work_123_body at hf
  have hx := C.1
  have hb := C.2.1
  refine lv_iload hx hb dX10_work_123 (lv_at hl 3 rfl) ?_
  refine lv_bipush (v := (9 : Int32)) hx hb dX10_work_125 (by decide) ?_
  refine lv_icmp_ge (tgt := 144) hx hb dX10_work_127 (by decide) (fun c1 => ?_) (fun c1 => ?_)
  · have hf := ip hf c1
    refine lv_aload_n hx hb dX10_work_144 rfl (lv_at hl 0 rfl) ?_
    refine lv_iconst (v := (1 : Int32)) hx hb dX10_work_145 (by decide) ?_
    obtain ⟨h2, e2, hf⟩ := ob hf
    refine r_pI C hw e2 ck10 rfl (by decide) rfl w1003 (Or.inl rfl) dX10_work_146 (fun H locs hw => ?_)
    refine lv_aload_n hx hb dX10_work_149 rfl (lv_at hl 0 rfl) ?_
    refine lv_iconst (v := (0 : Int32)) hx hb dX10_work_150 (by decide) ?_
    obtain ⟨h3, e3, hf⟩ := ob hf
    refine r_pI C hw e3 ck10 rfl (by decide) rfl w1004 (Or.inl rfl) dX10_work_151 (fun H locs hw => ?_)
    refine lv_aload_n hx hb dX10_work_154 rfl (lv_at hl 0 rfl) ?_
    refine lv_iconst (v := (0 : Int32)) hx hb dX10_work_155 (by decide) ?_
    obtain ⟨h4, e4, hf⟩ := ob hf
    refine r_pI C hw e4 ck10 rfl (by decide) rfl w1005 (Or.inl rfl) dX10_work_156 (fun H locs hw => ?_)
    refine lv_aload_n hx hb dX10_work_159 rfl (lv_at hl 0 rfl) ?_
    refine lv_iconst (v := (0 : Int32)) hx hb dX10_work_160 (by decide) ?_
    obtain ⟨h5, e5, hf⟩ := ob hf
    refine r_pI C hw e5 ck10 rfl (by decide) rfl w1010 (Or.inl rfl) dX10_work_161 (fun H locs hw => ?_)
    refine lv_aload_n hx hb dX10_work_164 rfl (lv_at hl 0 rfl) ?_
    refine lv_iconst (v := (0 : Int32)) hx hb dX10_work_165 (by decide) ?_
    obtain ⟨h6, e6, hf⟩ := ob hf
    refine r_pI C hw e6 ck10 rfl (by decide) rfl w1013 (Or.inl rfl) dX10_work_166 (fun H locs hw => ?_)
    exact bX10_work_169 C hn _ _ _ _ _ hf _ _ _ _ _ (by omega) (by omega) hw (lv_sub hl [0, 1, 2] rfl)
  · have hf := ie hf c1
    refine lv_aload_n hx hb dX10_work_130 rfl (lv_at hl 0 rfl) ?_
    obtain ⟨z7, e7, hf⟩ := ob hf
    refine r_gR C hw e7 ck10 rfl (by decide) w1001 dX10_work_131 ?_
    cases z7 with
    | none =>
      have hf := on_n hf
      cases hf
    | some a8 =>
      have hf := on_s hf
      refine W.eq (g2 := F0 m 134 ls [.ref a8]) rfl ?_
      refine lv_iload hx hb dX10_work_134 (lv_at hl 3 rfl) ?_
      refine lv_iconst (v := (0 : Int32)) hx hb dX10_work_136 (by decide) ?_
      obtain ⟨h9, e9, hf⟩ := ob hf
      refine r_zast C hw e9 dX10_work_137 (fun H locs hw => ?_)
      refine lv_iinc (v := (x4 + (1 : Int32))) (lv' := [(4, .int (x4 + (1 : Int32))), (0, .ref x0), (1, .int x1), (2, .int x2)]) hx hb dX10_work_138 hl (k := 3) rfl rfl (by decide) rfl (fun ls hl => ?_)
      refine lv_goto (tgt := 123) hx hb dX10_work_141 (by decide) ?_
      exact hk123 _ _ _ _ _ _ hf _ _ _ _ _ (by omega) (by omega) hw (lv_sub hl [1, 2, 3, 0] rfl)
set_option maxRecDepth 100000 in
set_option maxHeartbeats 4000000 in
theorem bX10_work_123 {D : va_G} {cy : Nat → ClassId} {s0 : Nat} {p : Program} {l : Launch} {e : Env} {s : State} {m : MethodId} {args : Array Value} {below : List Frame} {meth : Method} {c : Code} (C : CX D cy s0 p s m args meth c cX10_work 5 RX10 none) (hn : meth.name = "work") : ∀ (n : Nat) (x0 : Nat) (x1 : Int32) (x2 : Int32) (x4 : Int32) (h : Hp) (r : Unit × Hp), fX10_work_123 n x0 x1 x2 x4 h = some r → pX10_work_123 D cy s0 p l e s m args below meth c r x0 x1 x2 x4 h := by
  intro n
  induction n with
  | zero => intro x0 x1 x2 x4 h r hf; exact absurd hf (fun q => by cases q)
  | succ n ih => exact bX10_work_123_body C hn ih
set_option maxRecDepth 100000 in
set_option maxHeartbeats 4000000 in
theorem bX10_work_67_body {D : va_G} {cy : Nat → ClassId} {s0 : Nat} {p : Program} {l : Launch} {e : Env} {s : State} {m : MethodId} {args : Array Value} {below : List Frame} {meth : Method} {c : Code} (C : CX D cy s0 p s m args meth c cX10_work 5 RX10 none) (hn : meth.name = "work") {k67 : Nat → Int32 → Int32 → Int32 → Hp → Option (Unit × Hp)} (hk67 : ∀ (x0 : Nat) (x1 : Int32) (x2 : Int32) (x4 : Int32) (h : Hp) (r : Unit × Hp), k67 x0 x1 x2 x4 h = some r → pX10_work_67 D cy s0 p l e s m args below meth c r x0 x1 x2 x4 h) : ∀ (x0 : Nat) (x1 : Int32) (x2 : Int32) (x4 : Int32) (h : Hp) (r : Unit × Hp), fX10_work_67_body k67 x0 x1 x2 x4 h = some r → pX10_work_67 D cy s0 p l e s m args below meth c r x0 x1 x2 x4 h := by
  intro x0 x1 x2 x4 h ⟨rv, rh⟩ hf H locs ls cells slots hc hs hw hl
  unfold fX10_work_67_body at hf
  have hx := C.1
  have hb := C.2.1
  refine lv_iload hx hb dX10_work_67 (lv_at hl 3 rfl) ?_
  refine lv_bipush (v := (64 : Int32)) hx hb dX10_work_69 (by decide) ?_
  refine lv_icmp_ge (tgt := 120) hx hb dX10_work_71 (by decide) (fun c1 => ?_) (fun c1 => ?_)
  · have hf := ip hf c1
    refine lv_iconst (v := (0 : Int32)) hx hb dX10_work_120 (by decide) ?_
    refine lv_istore (lv' := [(4, .int (0 : Int32)), (0, .ref x0), (1, .int x1), (2, .int x2)]) hx hb dX10_work_121 hl (by decide) rfl (fun ls hl => ?_)
    exact bX10_work_123 C hn LF _ _ _ _ _ _ hf _ _ _ _ _ (by omega) (by omega) hw (lv_sub hl [1, 2, 3, 0] rfl)
  · have hf := ie hf c1
    refine lv_aload_n hx hb dX10_work_74 rfl (lv_at hl 0 rfl) ?_
    obtain ⟨z2, e2, hf⟩ := ob hf
    refine r_gR C hw e2 ck10 rfl (by decide) w996 dX10_work_75 ?_
    cases z2 with
    | none =>
      have hf := on_n hf
      cases hf
    | some a3 =>
      have hf := on_s hf
      refine W.eq (g2 := F0 m 78 ls [.ref a3]) rfl ?_
      refine lv_iload hx hb dX10_work_78 (lv_at hl 3 rfl) ?_
      refine lv_iconst (v := (0 : Int32)) hx hb dX10_work_80 (by decide) ?_
      obtain ⟨h4, e4, hf⟩ := ob hf
      refine r_iast C hw e4 dX10_work_81 (fun H locs hw => ?_)
      refine lv_aload_n hx hb dX10_work_82 rfl (lv_at hl 0 rfl) ?_
      obtain ⟨z5, e5, hf⟩ := ob hf
      refine r_gR C hw e5 ck10 rfl (by decide) w997 dX10_work_83 ?_
      cases z5 with
      | none =>
        have hf := on_n hf
        cases hf
      | some a6 =>
        have hf := on_s hf
        refine W.eq (g2 := F0 m 86 ls [.ref a6]) rfl ?_
        refine lv_iload hx hb dX10_work_86 (lv_at hl 3 rfl) ?_
        refine lv_iconst (v := (0 : Int32)) hx hb dX10_work_88 (by decide) ?_
        obtain ⟨h7, e7, hf⟩ := ob hf
        refine r_iast C hw e7 dX10_work_89 (fun H locs hw => ?_)
        refine lv_aload_n hx hb dX10_work_90 rfl (lv_at hl 0 rfl) ?_
        obtain ⟨z8, e8, hf⟩ := ob hf
        refine r_gR C hw e8 ck10 rfl (by decide) w998 dX10_work_91 ?_
        cases z8 with
        | none =>
          have hf := on_n hf
          cases hf
        | some a9 =>
          have hf := on_s hf
          refine W.eq (g2 := F0 m 94 ls [.ref a9]) rfl ?_
          refine lv_iload hx hb dX10_work_94 (lv_at hl 3 rfl) ?_
          refine lv_iconst (v := (0 : Int32)) hx hb dX10_work_96 (by decide) ?_
          obtain ⟨h10, e10, hf⟩ := ob hf
          refine r_iast C hw e10 dX10_work_97 (fun H locs hw => ?_)
          refine lv_aload_n hx hb dX10_work_98 rfl (lv_at hl 0 rfl) ?_
          obtain ⟨z11, e11, hf⟩ := ob hf
          refine r_gR C hw e11 ck10 rfl (by decide) w999 dX10_work_99 ?_
          cases z11 with
          | none =>
            have hf := on_n hf
            cases hf
          | some a12 =>
            have hf := on_s hf
            refine W.eq (g2 := F0 m 102 ls [.ref a12]) rfl ?_
            refine lv_iload hx hb dX10_work_102 (lv_at hl 3 rfl) ?_
            refine lv_iconst (v := (0 : Int32)) hx hb dX10_work_104 (by decide) ?_
            obtain ⟨h13, e13, hf⟩ := ob hf
            refine r_iast C hw e13 dX10_work_105 (fun H locs hw => ?_)
            refine lv_aload_n hx hb dX10_work_106 rfl (lv_at hl 0 rfl) ?_
            obtain ⟨z14, e14, hf⟩ := ob hf
            refine r_gR C hw e14 ck10 rfl (by decide) w1000 dX10_work_107 ?_
            cases z14 with
            | none =>
              have hf := on_n hf
              cases hf
            | some a15 =>
              have hf := on_s hf
              refine W.eq (g2 := F0 m 110 ls [.ref a15]) rfl ?_
              refine lv_iload hx hb dX10_work_110 (lv_at hl 3 rfl) ?_
              refine lv_iconst (v := (0 : Int32)) hx hb dX10_work_112 (by decide) ?_
              obtain ⟨h16, e16, hf⟩ := ob hf
              refine r_iast C hw e16 dX10_work_113 (fun H locs hw => ?_)
              refine lv_iinc (v := (x4 + (1 : Int32))) (lv' := [(4, .int (x4 + (1 : Int32))), (0, .ref x0), (1, .int x1), (2, .int x2)]) hx hb dX10_work_114 hl (k := 3) rfl rfl (by decide) rfl (fun ls hl => ?_)
              refine lv_goto (tgt := 67) hx hb dX10_work_117 (by decide) ?_
              exact hk67 _ _ _ _ _ _ hf _ _ _ _ _ (by omega) (by omega) hw (lv_sub hl [1, 2, 3, 0] rfl)
set_option maxRecDepth 100000 in
set_option maxHeartbeats 4000000 in
theorem bX10_work_67 {D : va_G} {cy : Nat → ClassId} {s0 : Nat} {p : Program} {l : Launch} {e : Env} {s : State} {m : MethodId} {args : Array Value} {below : List Frame} {meth : Method} {c : Code} (C : CX D cy s0 p s m args meth c cX10_work 5 RX10 none) (hn : meth.name = "work") : ∀ (n : Nat) (x0 : Nat) (x1 : Int32) (x2 : Int32) (x4 : Int32) (h : Hp) (r : Unit × Hp), fX10_work_67 n x0 x1 x2 x4 h = some r → pX10_work_67 D cy s0 p l e s m args below meth c r x0 x1 x2 x4 h := by
  intro n
  induction n with
  | zero => intro x0 x1 x2 x4 h r hf; exact absurd hf (fun q => by cases q)
  | succ n ih => exact bX10_work_67_body C hn ih
set_option maxRecDepth 100000 in
set_option maxHeartbeats 4000000 in
theorem bX10_work_59 {D : va_G} {cy : Nat → ClassId} {s0 : Nat} {p : Program} {l : Launch} {e : Env} {s : State} {m : MethodId} {args : Array Value} {below : List Frame} {meth : Method} {c : Code} (C : CX D cy s0 p s m args meth c cX10_work 5 RX10 none) (hn : meth.name = "work") : ∀ (x0 : Nat) (x1 : Int32) (x2 : Int32) (y0 : Int32) (h : Hp) (r : Unit × Hp), fX10_work_59 x0 x1 x2 y0 h = some r → pX10_work_59 D cy s0 p l e s m args below meth c r x0 x1 x2 y0 h := by
  intro x0 x1 x2 y0 h ⟨rv, rh⟩ hf H locs ls cells slots hc hs hw hl
  unfold fX10_work_59 at hf
  have hx := C.1
  have hb := C.2.1
  refine lv_istore_n (lv' := [(3, .int y0), (0, .ref x0), (1, .int x1), (2, .int x2)]) hx hb dX10_work_59 rfl hl (by decide) rfl (fun ls hl => ?_)
  refine lv_iload_n hx hb dX10_work_60 rfl (lv_at hl 0 rfl) ?_
  refine lv_if_ne (tgt := 169) hx hb dX10_work_61 (by decide) (fun c1 => ?_) (fun c1 => ?_)
  · have hf := ie hf c1
    exact bX10_work_169 C hn _ _ _ _ _ hf _ _ _ _ _ (by omega) (by omega) hw (lv_sub hl [1, 2, 3] rfl)
  · have hf := ip hf c1
    refine lv_iconst (v := (0 : Int32)) hx hb dX10_work_64 (by decide) ?_
    refine lv_istore (lv' := [(4, .int (0 : Int32)), (3, .int y0), (0, .ref x0), (1, .int x1), (2, .int x2)]) hx hb dX10_work_65 hl (by decide) rfl (fun ls hl => ?_)
    exact bX10_work_67 C hn LF _ _ _ _ _ _ hf _ _ _ _ _ (by omega) (by omega) hw (lv_sub hl [2, 3, 4, 0] rfl)
set_option maxRecDepth 100000 in
set_option maxHeartbeats 4000000 in
theorem bX10_work_58 {D : va_G} {cy : Nat → ClassId} {s0 : Nat} {p : Program} {l : Launch} {e : Env} {s : State} {m : MethodId} {args : Array Value} {below : List Frame} {meth : Method} {c : Code} (C : CX D cy s0 p s m args meth c cX10_work 5 RX10 none) (hn : meth.name = "work") : ∀ (x0 : Nat) (x1 : Int32) (x2 : Int32) (h : Hp) (r : Unit × Hp), fX10_work_58 x0 x1 x2 h = some r → pX10_work_58 D cy s0 p l e s m args below meth c r x0 x1 x2 h := by
  intro x0 x1 x2 h ⟨rv, rh⟩ hf H locs ls cells slots hc hs hw hl
  unfold fX10_work_58 at hf
  have hx := C.1
  have hb := C.2.1
  refine lv_iconst (v := (0 : Int32)) hx hb dX10_work_58 (by decide) ?_
  exact bX10_work_59 C hn _ _ _ _ _ _ hf _ _ _ _ _ (by omega) (by omega) hw (lv_sub hl [0, 1, 2] rfl)
set_option maxRecDepth 100000 in
set_option maxHeartbeats 4000000 in
theorem bX10_work_24 {D : va_G} {cy : Nat → ClassId} {s0 : Nat} {p : Program} {l : Launch} {e : Env} {s : State} {m : MethodId} {args : Array Value} {below : List Frame} {meth : Method} {c : Code} (C : CX D cy s0 p s m args meth c cX10_work 5 RX10 none) (hn : meth.name = "work") : ∀ (x0 : Nat) (x1 : Int32) (y0 : Int32) (h : Hp) (r : Unit × Hp), fX10_work_24 x0 x1 y0 h = some r → pX10_work_24 D cy s0 p l e s m args below meth c r x0 x1 y0 h := by
  intro x0 x1 y0 h ⟨rv, rh⟩ hf H locs ls cells slots hc hs hw hl
  unfold fX10_work_24 at hf
  have hx := C.1
  have hb := C.2.1
  refine lv_istore_n (lv' := [(2, .int y0), (0, .ref x0), (1, .int x1)]) hx hb dX10_work_24 rfl hl (by decide) rfl (fun ls hl => ?_)
  refine lv_aload_n hx hb dX10_work_25 rfl (lv_at hl 1 rfl) ?_
  obtain ⟨z1, e1, hf⟩ := ob hf
  refine r_gI C hw e1 ck10 rfl (by decide) w1012 dX10_work_26 ?_
  refine lv_iload_n hx hb dX10_work_29 rfl (lv_at hl 2 rfl) ?_
  refine lv_icmp_ne (tgt := 58) hx hb dX10_work_30 (by decide) (fun c2 => ?_) (fun c2 => ?_)
  · have hf := ie hf c2
    exact bX10_work_58 C hn _ _ _ _ _ hf _ _ _ _ _ (by omega) (by omega) hw (lv_sub hl [1, 2, 0] rfl)
  · have hf := ip hf c2
    refine lv_aload_n hx hb dX10_work_33 rfl (lv_at hl 1 rfl) ?_
    obtain ⟨z3, e3, hf⟩ := ob hf
    refine r_gI C hw e3 ck10 rfl (by decide) w1014 dX10_work_34 ?_
    refine lv_aload_n hx hb dX10_work_37 rfl (lv_at hl 1 rfl) ?_
    obtain ⟨z4, e4, hf⟩ := ob hf
    refine r_gR C hw e4 ck10 rfl (by decide) w977 dX10_work_38 ?_
    cases z4 with
    | none =>
      have hf := on_n hf
      cases hf
    | some a5 =>
      have hf := on_s hf
      refine W.eq (g2 := F0 m 41 ls [.ref a5, .int z3]) rfl ?_
      refine lv_iload_n hx hb dX10_work_41 rfl (lv_at hl 2 rfl) ?_
      obtain ⟨z6, e6, hf⟩ := ob hf
      refine r_iald C hw e6 dX10_work_42 ?_
      refine lv_icmp_ne (tgt := 58) hx hb dX10_work_43 (by decide) (fun c7 => ?_) (fun c7 => ?_)
      · have hf := ie hf c7
        exact bX10_work_58 C hn _ _ _ _ _ hf _ _ _ _ _ (by omega) (by omega) hw (lv_sub hl [1, 2, 0] rfl)
      · have hf := ip hf c7
        refine lv_aload_n hx hb dX10_work_46 rfl (lv_at hl 1 rfl) ?_
        obtain ⟨z8, e8, hf⟩ := ob hf
        refine r_gI C hw e8 ck10 rfl (by decide) w1013 dX10_work_47 ?_
        refine lv_iload_n hx hb dX10_work_50 rfl (lv_at hl 0 rfl) ?_
        refine lv_icmp_gt (tgt := 58) hx hb dX10_work_51 (by decide) (fun c9 => ?_) (fun c9 => ?_)
        · have hf := ip hf c9
          exact bX10_work_58 C hn _ _ _ _ _ hf _ _ _ _ _ (by omega) (by omega) hw (lv_sub hl [1, 2, 0] rfl)
        · have hf := ie hf c9
          refine lv_iconst (v := (1 : Int32)) hx hb dX10_work_54 (by decide) ?_
          refine lv_goto (tgt := 59) hx hb dX10_work_55 (by decide) ?_
          exact bX10_work_59 C hn _ _ _ _ _ _ hf _ _ _ _ _ (by omega) (by omega) hw (lv_sub hl [1, 2, 0] rfl)
set_option maxRecDepth 100000 in
set_option maxHeartbeats 4000000 in
theorem bX10_work {D : va_G} {cy : Nat → ClassId} {s0 : Nat} {p : Program} {l : Launch} {e : Env} {s : State} {m : MethodId} {args : Array Value} {below : List Frame} {meth : Method} {c : Code} (C : CX D cy s0 p s m args meth c cX10_work 5 RX10 none) (hn : meth.name = "work") : ∀ (x0 : Nat) (x1 : Int32) (h : Hp) (r : Unit × Hp), fX10_work x0 x1 h = some r → pX10_work D cy s0 p l e s m args below meth c r x0 x1 h := by
  intro x0 x1 h ⟨rv, rh⟩ hf H locs ls cells slots hc hs hw hl
  unfold fX10_work at hf
  have hx := C.1
  have hb := C.2.1
  refine lv_aload_n hx hb dX10_work_0 rfl (lv_at hl 0 rfl) ?_
  obtain ⟨z1, e1, hf⟩ := ob hf
  refine r_gR C hw e1 ck10 rfl (by decide) w964 dX10_work_1 ?_
  cases z1 with
  | none =>
    have hf := on_n hf
    cases hf
  | some a2 =>
    have hf := on_s hf
    refine W.eq (g2 := F0 m 4 ls [.ref a2]) rfl ?_
    refine lv_iload_n hx hb dX10_work_4 rfl (lv_at hl 1 rfl) ?_
    obtain ⟨z3, e3, hf⟩ := ob hf
    refine r_zald C hw e3 dX10_work_5 ?_
    refine lv_if_eq (tgt := 18) hx hb dX10_work_6 (by decide) (fun c4 => ?_) (fun c4 => ?_)
    · have hf := ip hf c4
      refine lv_aload_n hx hb dX10_work_18 rfl (lv_at hl 0 rfl) ?_
      obtain ⟨z5, e5, hf⟩ := ob hf
      refine r_gR C hw e5 ck10 rfl (by decide) w967 dX10_work_19 ?_
      cases z5 with
      | none =>
        have hf := on_n hf
        cases hf
      | some a6 =>
        have hf := on_s hf
        refine W.eq (g2 := F0 m 22 ls [.ref a6]) rfl ?_
        refine lv_iload_n hx hb dX10_work_22 rfl (lv_at hl 1 rfl) ?_
        obtain ⟨z7, e7, hf⟩ := ob hf
        refine r_iald C hw e7 dX10_work_23 ?_
        exact bX10_work_24 C hn _ _ _ _ _ hf _ _ _ _ _ (by omega) (by omega) hw (lv_sub hl [0, 1] rfl)
    · have hf := ie hf c4
      refine lv_aload_n hx hb dX10_work_9 rfl (lv_at hl 0 rfl) ?_
      obtain ⟨z8, e8, hf⟩ := ob hf
      refine r_gR C hw e8 ck10 rfl (by decide) w969 dX10_work_10 ?_
      cases z8 with
      | none =>
        have hf := on_n hf
        cases hf
      | some a9 =>
        have hf := on_s hf
        refine W.eq (g2 := F0 m 13 ls [.ref a9]) rfl ?_
        refine lv_iload_n hx hb dX10_work_13 rfl (lv_at hl 1 rfl) ?_
        obtain ⟨z10, e10, hf⟩ := ob hf
        refine r_iald C hw e10 dX10_work_14 ?_
        refine lv_goto (tgt := 24) hx hb dX10_work_15 (by decide) ?_
        exact bX10_work_24 C hn _ _ _ _ _ hf _ _ _ _ _ (by omega) (by omega) hw (lv_sub hl [0, 1] rfl)
theorem kXX10_work : MK yX10_work cX10_work 5 none 1 := ⟨w1248, w8, by decide +kernel⟩
theorem mX10_work {D : va_G} {cy : Nat → ClassId} {s0 : Nat} {l : Launch} {x0 : Nat} {x1 : Int32} {h : Hp} {v : Unit} {h1 : Hp} (hf : fX10_work x0 x1 h = some (v, h1)) : MT D cy s0 l yX10_work cX10_work 5 none rX10_work [.ref x0, .int x1] h none h1 := by
  refine MT.of (by decide +kernel) (Nat.le_of_ble_eq_true rfl) ?_
  intro p e s m below meth c H locs ls C hn hw hl
  exact bX10_work C hn _ _ _ _ hf _ _ _ _ _ (Nat.le_of_ble_eq_true rfl) (Nat.le_of_ble_eq_true rfl) hw hl
abbrev rX10_digest : Room := { frames := 5, cells := 0, slots := 0, locals := 122 }
abbrev pX10_digest_165 (D : va_G) (cy : Nat → ClassId) (s0 : Nat) (p : Program) (l : Launch) (e : Env) (s : State) (m : MethodId) (args : Array Value) (below : List Frame) (meth : Method) (c : Code) (r : Int64 × Hp) (x0 : Nat) (x2 : Int64) (x4 : Int32) (h : Hp) : Prop := ∀ (H : Heap) (locs : List Loc) (ls : Array Slot) (cells slots : Nat), cells + (0) ≤ 0 → slots + (0) ≤ 0 → WS D cy s0 s h H locs → lv_has ls 5 [(0, .ref x0), (2, .long x2), (4, .int x4)] → W p l e rX10_digest s m args below meth c H locs cells slots (MQ below (QQ D cy s0 (some (.long r.1)) r.2) args s 0 0 (fun q => s0 ≤ q)) (F0 m 165 ls [])
abbrev pX10_digest_153 (D : va_G) (cy : Nat → ClassId) (s0 : Nat) (p : Program) (l : Launch) (e : Env) (s : State) (m : MethodId) (args : Array Value) (below : List Frame) (meth : Method) (c : Code) (r : Int64 × Hp) (x0 : Nat) (x2 : Int64) (x4 : Int32) (h : Hp) : Prop := ∀ (H : Heap) (locs : List Loc) (ls : Array Slot) (cells slots : Nat), cells + (0) ≤ 0 → slots + (0) ≤ 0 → WS D cy s0 s h H locs → lv_has ls 5 [(0, .ref x0), (2, .long x2), (4, .int x4)] → W p l e rX10_digest s m args below meth c H locs cells slots (MQ below (QQ D cy s0 (some (.long r.1)) r.2) args s 0 0 (fun q => s0 ≤ q)) (F0 m 153 ls [])
abbrev pX10_digest_56 (D : va_G) (cy : Nat → ClassId) (s0 : Nat) (p : Program) (l : Launch) (e : Env) (s : State) (m : MethodId) (args : Array Value) (below : List Frame) (meth : Method) (c : Code) (r : Int64 × Hp) (x0 : Nat) (x2 : Int64) (x4 : Int32) (h : Hp) : Prop := ∀ (H : Heap) (locs : List Loc) (ls : Array Slot) (cells slots : Nat), cells + (0) ≤ 0 → slots + (0) ≤ 0 → WS D cy s0 s h H locs → lv_has ls 5 [(0, .ref x0), (2, .long x2), (4, .int x4)] → W p l e rX10_digest s m args below meth c H locs cells slots (MQ below (QQ D cy s0 (some (.long r.1)) r.2) args s 0 0 (fun q => s0 ≤ q)) (F0 m 56 ls [])
abbrev pX10_digest_35 (D : va_G) (cy : Nat → ClassId) (s0 : Nat) (p : Program) (l : Launch) (e : Env) (s : State) (m : MethodId) (args : Array Value) (below : List Frame) (meth : Method) (c : Code) (r : Int64 × Hp) (x0 : Nat) (x1 : Int32) (y0 : Int32) (y1 : Nat) (h : Hp) : Prop := ∀ (H : Heap) (locs : List Loc) (ls : Array Slot) (cells slots : Nat), cells + (0) ≤ 0 → slots + (0) ≤ 0 → WS D cy s0 s h H locs → lv_has ls 5 [(0, .ref x0), (1, .int x1)] → W p l e rX10_digest s m args below meth c H locs cells slots (MQ below (QQ D cy s0 (some (.long r.1)) r.2) args s 0 0 (fun q => s0 ≤ q)) (F0 m 35 ls [.int y0, .ref y1])
abbrev pX10_digest_13 (D : va_G) (cy : Nat → ClassId) (s0 : Nat) (p : Program) (l : Launch) (e : Env) (s : State) (m : MethodId) (args : Array Value) (below : List Frame) (meth : Method) (c : Code) (r : Int64 × Hp) (x0 : Nat) (x1 : Int32) (y0 : Int32) (y1 : Nat) (h : Hp) : Prop := ∀ (H : Heap) (locs : List Loc) (ls : Array Slot) (cells slots : Nat), cells + (0) ≤ 0 → slots + (0) ≤ 0 → WS D cy s0 s h H locs → lv_has ls 5 [(0, .ref x0), (1, .int x1)] → W p l e rX10_digest s m args below meth c H locs cells slots (MQ below (QQ D cy s0 (some (.long r.1)) r.2) args s 0 0 (fun q => s0 ≤ q)) (F0 m 13 ls [.int y0, .ref y1])
abbrev pX10_digest (D : va_G) (cy : Nat → ClassId) (s0 : Nat) (p : Program) (l : Launch) (e : Env) (s : State) (m : MethodId) (args : Array Value) (below : List Frame) (meth : Method) (c : Code) (r : Int64 × Hp) (x0 : Nat) (x1 : Int32) (h : Hp) : Prop := ∀ (H : Heap) (locs : List Loc) (ls : Array Slot) (cells slots : Nat), cells + (0) ≤ 0 → slots + (0) ≤ 0 → WS D cy s0 s h H locs → lv_has ls 5 [(0, .ref x0), (1, .int x1)] → W p l e rX10_digest s m args below meth c H locs cells slots (MQ below (QQ D cy s0 (some (.long r.1)) r.2) args s 0 0 (fun q => s0 ≤ q)) (F0 m 0 ls [])
set_option maxRecDepth 100000 in
set_option maxHeartbeats 4000000 in
theorem bX10_digest_165_body {D : va_G} {cy : Nat → ClassId} {s0 : Nat} {p : Program} {l : Launch} {e : Env} {s : State} {m : MethodId} {args : Array Value} {below : List Frame} {meth : Method} {c : Code} (C : CX D cy s0 p s m args meth c cX10_digest 5 RX10 (some .long)) (hn : meth.name = "digest") {k165 : Nat → Int64 → Int32 → Hp → Option (Int64 × Hp)} (hk165 : ∀ (x0 : Nat) (x2 : Int64) (x4 : Int32) (h : Hp) (r : Int64 × Hp), k165 x0 x2 x4 h = some r → pX10_digest_165 D cy s0 p l e s m args below meth c r x0 x2 x4 h) : ∀ (x0 : Nat) (x2 : Int64) (x4 : Int32) (h : Hp) (r : Int64 × Hp), fX10_digest_165_body k165 x0 x2 x4 h = some r → pX10_digest_165 D cy s0 p l e s m args below meth c r x0 x2 x4 h := by
  intro x0 x2 x4 h ⟨rv, rh⟩ hf H locs ls cells slots hc hs hw hl
  unfold fX10_digest_165_body at hf
  have hx := C.1
  have hb := C.2.1
  refine lv_iload hx hb dX10_digest_165 (lv_at hl 2 rfl) ?_
  refine lv_aload_n hx hb dX10_digest_167 rfl (lv_at hl 0 rfl) ?_
  obtain ⟨z1, e1, hf⟩ := ob hf
  refine r_gI C hw e1 ck10 rfl (by decide) w1010 dX10_digest_168 ?_
  refine lv_icmp_ge (tgt := 193) hx hb dX10_digest_171 (by decide) (fun c2 => ?_) (fun c2 => ?_)
  · have hf := ip hf c2
    refine lv_ldc2 (v := (31 : Int64)) hx hb C.2.2.2.1 (C.2.2.2.2.1 _ w1313) dX10_digest_193 ?_
    refine lv_lload_n hx hb dX10_digest_196 rfl (lv_at hl 1 rfl) ?_
    refine lv_lmul hx hb dX10_digest_197 ?_
    refine lv_aload_n hx hb dX10_digest_198 rfl (lv_at hl 0 rfl) ?_
    obtain ⟨z3, e3, hf⟩ := ob hf
    refine r_gI C hw e3 ck10 rfl (by decide) w1003 dX10_digest_199 ?_
    refine lv_i2l (v := (z3.toInt64)) hx hb dX10_digest_202 rfl ?_
    refine lv_ladd hx hb dX10_digest_203 ?_
    obtain ⟨rfl, rfl⟩ := sp hf
    exact r_lret C hw rfl (by omega) (by omega) dX10_digest_204
  · have hf := ie hf c2
    refine lv_ldc2 (v := (31 : Int64)) hx hb C.2.2.2.1 (C.2.2.2.2.1 _ w1313) dX10_digest_174 ?_
    refine lv_lload_n hx hb dX10_digest_177 rfl (lv_at hl 1 rfl) ?_
    refine lv_lmul hx hb dX10_digest_178 ?_
    refine lv_aload_n hx hb dX10_digest_179 rfl (lv_at hl 0 rfl) ?_
    refine lv_iload hx hb dX10_digest_180 (lv_at hl 2 rfl) ?_
    obtain ⟨kb4, hf⟩ := ig hf
    obtain ⟨z4, h4, e4, hf⟩ := ob2 hf
    refine r_callV C hw (mX10_coded e4) kXX10_coded ck10 rfl kb4 w1289 w1291 v61 ⟨Nat.le_of_ble_eq_true rfl, Nat.le_of_ble_eq_true rfl⟩ rfl hl.1 (rest := [.long ((31 : Int64) * x2)]) rfl (Nat.le_of_ble_eq_true rfl) dX10_digest_182 (mc := 0) (ms := 0) rfl rfl ⟨by show _ + 0 ≤ 0; omega, by show _ + 0 ≤ 0; omega⟩ (fun H locs hw => ?_)
    refine W.eq (g2 := F0 m 185 ls [.long z4, .long ((31 : Int64) * x2)]) rfl ?_
    refine lv_ladd hx hb dX10_digest_185 ?_
    refine lv_lstore_n (lv' := [(2, .long (((31 : Int64) * x2) + z4)), (0, .ref x0), (4, .int x4)]) hx hb dX10_digest_186 rfl hl (by decide) rfl (fun ls hl => ?_)
    refine lv_iinc (v := (x4 + (1 : Int32))) (lv' := [(4, .int (x4 + (1 : Int32))), (2, .long (((31 : Int64) * x2) + z4)), (0, .ref x0)]) hx hb dX10_digest_187 hl (k := 2) rfl rfl (by decide) rfl (fun ls hl => ?_)
    refine lv_goto (tgt := 165) hx hb dX10_digest_190 (by decide) ?_
    exact hk165 _ _ _ _ _ hf _ _ _ _ _ (by omega) (by omega) hw (lv_sub hl [2, 1, 0] rfl)
set_option maxRecDepth 100000 in
set_option maxHeartbeats 4000000 in
theorem bX10_digest_165 {D : va_G} {cy : Nat → ClassId} {s0 : Nat} {p : Program} {l : Launch} {e : Env} {s : State} {m : MethodId} {args : Array Value} {below : List Frame} {meth : Method} {c : Code} (C : CX D cy s0 p s m args meth c cX10_digest 5 RX10 (some .long)) (hn : meth.name = "digest") : ∀ (n : Nat) (x0 : Nat) (x2 : Int64) (x4 : Int32) (h : Hp) (r : Int64 × Hp), fX10_digest_165 n x0 x2 x4 h = some r → pX10_digest_165 D cy s0 p l e s m args below meth c r x0 x2 x4 h := by
  intro n
  induction n with
  | zero => intro x0 x2 x4 h r hf; exact absurd hf (fun q => by cases q)
  | succ n ih => exact bX10_digest_165_body C hn ih
set_option maxRecDepth 100000 in
set_option maxHeartbeats 4000000 in
theorem bX10_digest_153 {D : va_G} {cy : Nat → ClassId} {s0 : Nat} {p : Program} {l : Launch} {e : Env} {s : State} {m : MethodId} {args : Array Value} {below : List Frame} {meth : Method} {c : Code} (C : CX D cy s0 p s m args meth c cX10_digest 5 RX10 (some .long)) (hn : meth.name = "digest") {k56 : Nat → Int64 → Int32 → Hp → Option (Int64 × Hp)} (hk56 : ∀ (x0 : Nat) (x2 : Int64) (x4 : Int32) (h : Hp) (r : Int64 × Hp), k56 x0 x2 x4 h = some r → pX10_digest_56 D cy s0 p l e s m args below meth c r x0 x2 x4 h) : ∀ (x0 : Nat) (x2 : Int64) (x4 : Int32) (h : Hp) (r : Int64 × Hp), fX10_digest_153 k56 x0 x2 x4 h = some r → pX10_digest_153 D cy s0 p l e s m args below meth c r x0 x2 x4 h := by
  intro x0 x2 x4 h ⟨rv, rh⟩ hf H locs ls cells slots hc hs hw hl
  unfold fX10_digest_153 at hf
  have hx := C.1
  have hb := C.2.1
  refine lv_iinc (v := (x4 + (1 : Int32))) (lv' := [(4, .int (x4 + (1 : Int32))), (0, .ref x0), (2, .long x2)]) hx hb dX10_digest_153 hl (k := 2) rfl rfl (by decide) rfl (fun ls hl => ?_)
  refine lv_goto (tgt := 56) hx hb dX10_digest_156 (by decide) ?_
  exact hk56 _ _ _ _ _ hf _ _ _ _ _ (by omega) (by omega) hw (lv_sub hl [1, 2, 0] rfl)
set_option maxRecDepth 100000 in
set_option maxHeartbeats 4000000 in
theorem bX10_digest_56_body {D : va_G} {cy : Nat → ClassId} {s0 : Nat} {p : Program} {l : Launch} {e : Env} {s : State} {m : MethodId} {args : Array Value} {below : List Frame} {meth : Method} {c : Code} (C : CX D cy s0 p s m args meth c cX10_digest 5 RX10 (some .long)) (hn : meth.name = "digest") {k56 : Nat → Int64 → Int32 → Hp → Option (Int64 × Hp)} (hk56 : ∀ (x0 : Nat) (x2 : Int64) (x4 : Int32) (h : Hp) (r : Int64 × Hp), k56 x0 x2 x4 h = some r → pX10_digest_56 D cy s0 p l e s m args below meth c r x0 x2 x4 h) : ∀ (x0 : Nat) (x2 : Int64) (x4 : Int32) (h : Hp) (r : Int64 × Hp), fX10_digest_56_body k56 x0 x2 x4 h = some r → pX10_digest_56 D cy s0 p l e s m args below meth c r x0 x2 x4 h := by
  intro x0 x2 x4 h ⟨rv, rh⟩ hf H locs ls cells slots hc hs hw hl
  unfold fX10_digest_56_body at hf
  have hx := C.1
  have hb := C.2.1
  refine lv_iload hx hb dX10_digest_56 (lv_at hl 2 rfl) ?_
  refine lv_bipush (v := (64 : Int32)) hx hb dX10_digest_58 (by decide) ?_
  refine lv_icmp_ge (tgt := 159) hx hb dX10_digest_60 (by decide) (fun c1 => ?_) (fun c1 => ?_)
  · have hf := ip hf c1
    refine lv_aload_n hx hb dX10_digest_159 rfl (lv_at hl 0 rfl) ?_
    obtain ⟨kb2, hf⟩ := ig hf
    obtain ⟨z2, h2, e2, hf⟩ := ob2 hf
    refine r_callV C hw (mX10_firstEvent e2) kXX10_firstEvent ck10 rfl kb2 w1273 w1275 v60 ⟨Nat.le_of_ble_eq_true rfl, Nat.le_of_ble_eq_true rfl⟩ rfl hl.1 (rest := []) rfl (Nat.le_of_ble_eq_true rfl) dX10_digest_160 (mc := 0) (ms := 0) rfl rfl ⟨by show _ + 0 ≤ 0; omega, by show _ + 0 ≤ 0; omega⟩ (fun H locs hw => ?_)
    refine W.eq (g2 := F0 m 163 ls [.int z2]) rfl ?_
    refine lv_istore (lv' := [(4, .int z2), (0, .ref x0), (2, .long x2)]) hx hb dX10_digest_163 hl (by decide) rfl (fun ls hl => ?_)
    exact bX10_digest_165 C hn LF _ _ _ _ _ hf _ _ _ _ _ (by omega) (by omega) hw (lv_sub hl [1, 2, 0] rfl)
  · have hf := ie hf c1
    refine lv_aload_n hx hb dX10_digest_63 rfl (lv_at hl 0 rfl) ?_
    obtain ⟨z3, e3, hf⟩ := ob hf
    refine r_gR C hw e3 ck10 rfl (by decide) w996 dX10_digest_64 ?_
    cases z3 with
    | none =>
      have hf := on_n hf
      cases hf
    | some a4 =>
      have hf := on_s hf
      refine W.eq (g2 := F0 m 67 ls [.ref a4]) rfl ?_
      refine lv_iload hx hb dX10_digest_67 (lv_at hl 2 rfl) ?_
      obtain ⟨z5, e5, hf⟩ := ob hf
      refine r_iald C hw e5 dX10_digest_69 ?_
      refine lv_if_ne (tgt := 76) hx hb dX10_digest_70 (by decide) (fun c6 => ?_) (fun c6 => ?_)
      · have hf := ie hf c6
        refine lv_ldc2 (v := (31 : Int64)) hx hb C.2.2.2.1 (C.2.2.2.2.1 _ w1313) dX10_digest_76 ?_
        refine lv_ldc2 (v := (31 : Int64)) hx hb C.2.2.2.1 (C.2.2.2.2.1 _ w1313) dX10_digest_79 ?_
        refine lv_ldc2 (v := (31 : Int64)) hx hb C.2.2.2.1 (C.2.2.2.2.1 _ w1313) dX10_digest_82 ?_
        refine lv_lload_n hx hb dX10_digest_85 rfl (lv_at hl 1 rfl) ?_
        refine lv_lmul hx hb dX10_digest_86 ?_
        refine lv_iload hx hb dX10_digest_87 (lv_at hl 2 rfl) ?_
        refine lv_i2l (v := (x4.toInt64)) hx hb dX10_digest_89 rfl ?_
        refine lv_ladd hx hb dX10_digest_90 ?_
        refine lv_lmul hx hb dX10_digest_91 ?_
        refine lv_aload_n hx hb dX10_digest_92 rfl (lv_at hl 0 rfl) ?_
        obtain ⟨z7, e7, hf⟩ := ob hf
        refine r_gR C hw e7 ck10 rfl (by decide) w999 dX10_digest_93 ?_
        cases z7 with
        | none =>
          have hf := on_n hf
          cases hf
        | some a8 =>
          have hf := on_s hf
          refine W.eq (g2 := F0 m 96 ls [.ref a8, .long ((31 : Int64) * (((31 : Int64) * x2) + (x4.toInt64))), .long (31 : Int64)]) rfl ?_
          refine lv_iload hx hb dX10_digest_96 (lv_at hl 2 rfl) ?_
          obtain ⟨z9, e9, hf⟩ := ob hf
          refine r_iald C hw e9 dX10_digest_98 ?_
          refine lv_i2l (v := (z9.toInt64)) hx hb dX10_digest_99 rfl ?_
          refine lv_ladd hx hb dX10_digest_100 ?_
          refine lv_lmul hx hb dX10_digest_101 ?_
          refine lv_aload_n hx hb dX10_digest_102 rfl (lv_at hl 0 rfl) ?_
          obtain ⟨z10, e10, hf⟩ := ob hf
          refine r_gR C hw e10 ck10 rfl (by decide) w996 dX10_digest_103 ?_
          cases z10 with
          | none =>
            have hf := on_n hf
            cases hf
          | some a11 =>
            have hf := on_s hf
            refine W.eq (g2 := F0 m 106 ls [.ref a11, .long ((31 : Int64) * (((31 : Int64) * (((31 : Int64) * x2) + (x4.toInt64))) + (z9.toInt64)))]) rfl ?_
            refine lv_iload hx hb dX10_digest_106 (lv_at hl 2 rfl) ?_
            obtain ⟨z12, e12, hf⟩ := ob hf
            refine r_iald C hw e12 dX10_digest_108 ?_
            refine lv_i2l (v := (z12.toInt64)) hx hb dX10_digest_109 rfl ?_
            refine lv_ladd hx hb dX10_digest_110 ?_
            refine lv_lstore_n (lv' := [(2, .long (((31 : Int64) * (((31 : Int64) * (((31 : Int64) * x2) + (x4.toInt64))) + (z9.toInt64))) + (z12.toInt64))), (0, .ref x0), (4, .int x4)]) hx hb dX10_digest_111 rfl hl (by decide) rfl (fun ls hl => ?_)
            refine lv_ldc2 (v := (31 : Int64)) hx hb C.2.2.2.1 (C.2.2.2.2.1 _ w1313) dX10_digest_112 ?_
            refine lv_ldc2 (v := (31 : Int64)) hx hb C.2.2.2.1 (C.2.2.2.2.1 _ w1313) dX10_digest_115 ?_
            refine lv_ldc2 (v := (31 : Int64)) hx hb C.2.2.2.1 (C.2.2.2.2.1 _ w1313) dX10_digest_118 ?_
            refine lv_lload_n hx hb dX10_digest_121 rfl (lv_at hl 0 rfl) ?_
            refine lv_lmul hx hb dX10_digest_122 ?_
            refine lv_aload_n hx hb dX10_digest_123 rfl (lv_at hl 1 rfl) ?_
            obtain ⟨z13, e13, hf⟩ := ob hf
            refine r_gR C hw e13 ck10 rfl (by decide) w997 dX10_digest_124 ?_
            cases z13 with
            | none =>
              have hf := on_n hf
              cases hf
            | some a14 =>
              have hf := on_s hf
              refine W.eq (g2 := F0 m 127 ls [.ref a14, .long ((31 : Int64) * (((31 : Int64) * (((31 : Int64) * (((31 : Int64) * x2) + (x4.toInt64))) + (z9.toInt64))) + (z12.toInt64))), .long (31 : Int64), .long (31 : Int64)]) rfl ?_
              refine lv_iload hx hb dX10_digest_127 (lv_at hl 2 rfl) ?_
              obtain ⟨z15, e15, hf⟩ := ob hf
              refine r_iald C hw e15 dX10_digest_129 ?_
              refine lv_i2l (v := (z15.toInt64)) hx hb dX10_digest_130 rfl ?_
              refine lv_ladd hx hb dX10_digest_131 ?_
              refine lv_lmul hx hb dX10_digest_132 ?_
              refine lv_aload_n hx hb dX10_digest_133 rfl (lv_at hl 1 rfl) ?_
              obtain ⟨z16, e16, hf⟩ := ob hf
              refine r_gR C hw e16 ck10 rfl (by decide) w998 dX10_digest_134 ?_
              cases z16 with
              | none =>
                have hf := on_n hf
                cases hf
              | some a17 =>
                have hf := on_s hf
                refine W.eq (g2 := F0 m 137 ls [.ref a17, .long ((31 : Int64) * (((31 : Int64) * (((31 : Int64) * (((31 : Int64) * (((31 : Int64) * x2) + (x4.toInt64))) + (z9.toInt64))) + (z12.toInt64))) + (z15.toInt64))), .long (31 : Int64)]) rfl ?_
                refine lv_iload hx hb dX10_digest_137 (lv_at hl 2 rfl) ?_
                obtain ⟨z18, e18, hf⟩ := ob hf
                refine r_iald C hw e18 dX10_digest_139 ?_
                refine lv_i2l (v := (z18.toInt64)) hx hb dX10_digest_140 rfl ?_
                refine lv_ladd hx hb dX10_digest_141 ?_
                refine lv_lmul hx hb dX10_digest_142 ?_
                refine lv_aload_n hx hb dX10_digest_143 rfl (lv_at hl 1 rfl) ?_
                obtain ⟨z19, e19, hf⟩ := ob hf
                refine r_gR C hw e19 ck10 rfl (by decide) w1000 dX10_digest_144 ?_
                cases z19 with
                | none =>
                  have hf := on_n hf
                  cases hf
                | some a20 =>
                  have hf := on_s hf
                  refine W.eq (g2 := F0 m 147 ls [.ref a20, .long ((31 : Int64) * (((31 : Int64) * (((31 : Int64) * (((31 : Int64) * (((31 : Int64) * (((31 : Int64) * x2) + (x4.toInt64))) + (z9.toInt64))) + (z12.toInt64))) + (z15.toInt64))) + (z18.toInt64)))]) rfl ?_
                  refine lv_iload hx hb dX10_digest_147 (lv_at hl 2 rfl) ?_
                  obtain ⟨z21, e21, hf⟩ := ob hf
                  refine r_iald C hw e21 dX10_digest_149 ?_
                  refine lv_i2l (v := (z21.toInt64)) hx hb dX10_digest_150 rfl ?_
                  refine lv_ladd hx hb dX10_digest_151 ?_
                  refine lv_lstore_n (lv' := [(2, .long (((31 : Int64) * (((31 : Int64) * (((31 : Int64) * (((31 : Int64) * (((31 : Int64) * (((31 : Int64) * x2) + (x4.toInt64))) + (z9.toInt64))) + (z12.toInt64))) + (z15.toInt64))) + (z18.toInt64))) + (z21.toInt64))), (0, .ref x0), (4, .int x4)]) hx hb dX10_digest_152 rfl hl (by decide) rfl (fun ls hl => ?_)
                  exact bX10_digest_153 C hn hk56 _ _ _ _ _ hf _ _ _ _ _ (by omega) (by omega) hw (lv_sub hl [1, 0, 2] rfl)
      · have hf := ip hf c6
        refine lv_goto (tgt := 153) hx hb dX10_digest_73 (by decide) ?_
        exact bX10_digest_153 C hn hk56 _ _ _ _ _ hf _ _ _ _ _ (by omega) (by omega) hw (lv_sub hl [0, 1, 2] rfl)
set_option maxRecDepth 100000 in
set_option maxHeartbeats 4000000 in
theorem bX10_digest_56 {D : va_G} {cy : Nat → ClassId} {s0 : Nat} {p : Program} {l : Launch} {e : Env} {s : State} {m : MethodId} {args : Array Value} {below : List Frame} {meth : Method} {c : Code} (C : CX D cy s0 p s m args meth c cX10_digest 5 RX10 (some .long)) (hn : meth.name = "digest") : ∀ (n : Nat) (x0 : Nat) (x2 : Int64) (x4 : Int32) (h : Hp) (r : Int64 × Hp), fX10_digest_56 n x0 x2 x4 h = some r → pX10_digest_56 D cy s0 p l e s m args below meth c r x0 x2 x4 h := by
  intro n
  induction n with
  | zero => intro x0 x2 x4 h r hf; exact absurd hf (fun q => by cases q)
  | succ n ih => exact bX10_digest_56_body C hn ih
set_option maxRecDepth 100000 in
set_option maxHeartbeats 4000000 in
theorem bX10_digest_35 {D : va_G} {cy : Nat → ClassId} {s0 : Nat} {p : Program} {l : Launch} {e : Env} {s : State} {m : MethodId} {args : Array Value} {below : List Frame} {meth : Method} {c : Code} (C : CX D cy s0 p s m args meth c cX10_digest 5 RX10 (some .long)) (hn : meth.name = "digest") : ∀ (x0 : Nat) (x1 : Int32) (y0 : Int32) (y1 : Nat) (h : Hp) (r : Int64 × Hp), fX10_digest_35 x0 x1 y0 y1 h = some r → pX10_digest_35 D cy s0 p l e s m args below meth c r x0 x1 y0 y1 h := by
  intro x0 x1 y0 y1 h ⟨rv, rh⟩ hf H locs ls cells slots hc hs hw hl
  unfold fX10_digest_35 at hf
  have hx := C.1
  have hb := C.2.1
  refine lv_iconst (v := (2 : Int32)) hx hb dX10_digest_35 (by decide) ?_
  obtain ⟨kb1, hf⟩ := ig hf
  obtain ⟨z1, h1, e1, hf⟩ := ob2 hf
  refine r_callV C hw (mX10_bad e1) kXX10_bad ck10 rfl kb1 w1132 w1134 v35 ⟨Nat.le_of_ble_eq_true rfl, Nat.le_of_ble_eq_true rfl⟩ rfl hl.1 (rest := []) rfl (Nat.le_of_ble_eq_true rfl) dX10_digest_36 (mc := 0) (ms := 0) rfl rfl ⟨by show _ + 0 ≤ 0; omega, by show _ + 0 ≤ 0; omega⟩ (fun H locs hw => ?_)
  refine W.eq (g2 := F0 m 39 ls [.int z1]) rfl ?_
  refine lv_if_eq (tgt := 44) hx hb dX10_digest_39 (by decide) (fun c2 => ?_) (fun c2 => ?_)
  · have hf := ip hf c2
    refine lv_aload_n hx hb dX10_digest_44 rfl (lv_at hl 0 rfl) ?_
    refine lv_iload_n hx hb dX10_digest_45 rfl (lv_at hl 1 rfl) ?_
    obtain ⟨kb3, hf⟩ := ig hf
    obtain ⟨z3, h3, e3, hf⟩ := ob2 hf
    refine r_callV C hw (mX10_work e3) kXX10_work ck10 rfl kb3 w1245 w1247 v53 ⟨Nat.le_of_ble_eq_true rfl, Nat.le_of_ble_eq_true rfl⟩ rfl hl.1 (rest := []) rfl (Nat.le_of_ble_eq_true rfl) dX10_digest_46 (mc := 0) (ms := 0) rfl rfl ⟨by show _ + 0 ≤ 0; omega, by show _ + 0 ≤ 0; omega⟩ (fun H locs hw => ?_)
    refine W.eq (g2 := F0 m 49 ls []) rfl ?_
    refine lv_ldc2 (v := (7 : Int64)) hx hb C.2.2.2.1 (C.2.2.2.2.1 _ w1312) dX10_digest_49 ?_
    refine lv_lstore_n (lv' := [(2, .long (7 : Int64)), (0, .ref x0), (1, .int x1)]) hx hb dX10_digest_52 rfl hl (by decide) rfl (fun ls hl => ?_)
    refine lv_iconst (v := (0 : Int32)) hx hb dX10_digest_53 (by decide) ?_
    refine lv_istore (lv' := [(4, .int (0 : Int32)), (2, .long (7 : Int64)), (0, .ref x0), (1, .int x1)]) hx hb dX10_digest_54 hl (by decide) rfl (fun ls hl => ?_)
    exact bX10_digest_56 C hn LF _ _ _ _ _ hf _ _ _ _ _ (by omega) (by omega) hw (lv_sub hl [2, 1, 0] rfl)
  · have hf := ie hf c2
    refine lv_lconst (v := (0 : Int64)) hx hb dX10_digest_42 rfl ?_
    obtain ⟨rfl, rfl⟩ := sp hf
    exact r_lret C hw rfl (by omega) (by omega) dX10_digest_43
set_option maxRecDepth 100000 in
set_option maxHeartbeats 4000000 in
theorem bX10_digest_13 {D : va_G} {cy : Nat → ClassId} {s0 : Nat} {p : Program} {l : Launch} {e : Env} {s : State} {m : MethodId} {args : Array Value} {below : List Frame} {meth : Method} {c : Code} (C : CX D cy s0 p s m args meth c cX10_digest 5 RX10 (some .long)) (hn : meth.name = "digest") : ∀ (x0 : Nat) (x1 : Int32) (y0 : Int32) (y1 : Nat) (h : Hp) (r : Int64 × Hp), fX10_digest_13 x0 x1 y0 y1 h = some r → pX10_digest_13 D cy s0 p l e s m args below meth c r x0 x1 y0 y1 h := by
  intro x0 x1 y0 y1 h ⟨rv, rh⟩ hf H locs ls cells slots hc hs hw hl
  unfold fX10_digest_13 at hf
  have hx := C.1
  have hb := C.2.1
  refine lv_iconst (v := (1 : Int32)) hx hb dX10_digest_13 (by decide) ?_
  obtain ⟨kb1, hf⟩ := ig hf
  obtain ⟨z1, h1, e1, hf⟩ := ob2 hf
  refine r_callV C hw (mX10_bad e1) kXX10_bad ck10 rfl kb1 w1132 w1134 v35 ⟨Nat.le_of_ble_eq_true rfl, Nat.le_of_ble_eq_true rfl⟩ rfl hl.1 (rest := []) rfl (Nat.le_of_ble_eq_true rfl) dX10_digest_14 (mc := 0) (ms := 0) rfl rfl ⟨by show _ + 0 ≤ 0; omega, by show _ + 0 ≤ 0; omega⟩ (fun H locs hw => ?_)
  refine W.eq (g2 := F0 m 17 ls [.int z1]) rfl ?_
  refine lv_if_ne (tgt := 42) hx hb dX10_digest_17 (by decide) (fun c2 => ?_) (fun c2 => ?_)
  · have hf := ie hf c2
    refine lv_lconst (v := (0 : Int64)) hx hb dX10_digest_42 rfl ?_
    obtain ⟨rfl, rfl⟩ := sp hf
    exact r_lret C hw rfl (by omega) (by omega) dX10_digest_43
  · have hf := ip hf c2
    refine lv_aload_n hx hb dX10_digest_20 rfl (lv_at hl 0 rfl) ?_
    refine lv_aload_n hx hb dX10_digest_21 rfl (lv_at hl 0 rfl) ?_
    obtain ⟨z3, e3, hf⟩ := ob hf
    refine r_gR C hw e3 ck10 rfl (by decide) w964 dX10_digest_22 ?_
    cases z3 with
    | none =>
      have hf := on_n hf
      cases hf
    | some a4 =>
      have hf := on_s hf
      refine W.eq (g2 := F0 m 25 ls [.ref a4, .ref x0]) rfl ?_
      refine lv_iload_n hx hb dX10_digest_25 rfl (lv_at hl 1 rfl) ?_
      obtain ⟨z5, e5, hf⟩ := ob hf
      refine r_zald C hw e5 dX10_digest_26 ?_
      refine lv_if_ne (tgt := 34) hx hb dX10_digest_27 (by decide) (fun c6 => ?_) (fun c6 => ?_)
      · have hf := ie hf c6
        refine lv_iconst (v := (0 : Int32)) hx hb dX10_digest_34 (by decide) ?_
        exact bX10_digest_35 C hn _ _ _ _ _ _ hf _ _ _ _ _ (by omega) (by omega) hw (lv_sub hl [0, 1] rfl)
      · have hf := ip hf c6
        refine lv_iconst (v := (1 : Int32)) hx hb dX10_digest_30 (by decide) ?_
        refine lv_goto (tgt := 35) hx hb dX10_digest_31 (by decide) ?_
        exact bX10_digest_35 C hn _ _ _ _ _ _ hf _ _ _ _ _ (by omega) (by omega) hw (lv_sub hl [0, 1] rfl)
set_option maxRecDepth 100000 in
set_option maxHeartbeats 4000000 in
theorem bX10_digest {D : va_G} {cy : Nat → ClassId} {s0 : Nat} {p : Program} {l : Launch} {e : Env} {s : State} {m : MethodId} {args : Array Value} {below : List Frame} {meth : Method} {c : Code} (C : CX D cy s0 p s m args meth c cX10_digest 5 RX10 (some .long)) (hn : meth.name = "digest") : ∀ (x0 : Nat) (x1 : Int32) (h : Hp) (r : Int64 × Hp), fX10_digest x0 x1 h = some r → pX10_digest D cy s0 p l e s m args below meth c r x0 x1 h := by
  intro x0 x1 h ⟨rv, rh⟩ hf H locs ls cells slots hc hs hw hl
  unfold fX10_digest at hf
  have hx := C.1
  have hb := C.2.1
  refine lv_aload_n hx hb dX10_digest_0 rfl (lv_at hl 0 rfl) ?_
  refine lv_iload_n hx hb dX10_digest_1 rfl (lv_at hl 1 rfl) ?_
  obtain ⟨z1, h1, e1, hf⟩ := ob2 hf
  refine r_callS C hw (mX10_isNode e1) kXX10_isNode w1129 w1130 ⟨Nat.le_of_ble_eq_true rfl, Nat.le_of_ble_eq_true rfl⟩ rfl hl.1 (rest := [.ref x0]) rfl (Nat.le_of_ble_eq_true rfl) dX10_digest_2 (mc := 0) (ms := 0) rfl rfl ⟨by show _ + 0 ≤ 0; omega, by show _ + 0 ≤ 0; omega⟩ (fun H locs hw => ?_)
  refine W.eq (g2 := F0 m 5 ls [.int z1, .ref x0]) rfl ?_
  refine lv_if_ne (tgt := 12) hx hb dX10_digest_5 (by decide) (fun c2 => ?_) (fun c2 => ?_)
  · have hf := ie hf c2
    refine lv_iconst (v := (0 : Int32)) hx hb dX10_digest_12 (by decide) ?_
    exact bX10_digest_13 C hn _ _ _ _ _ _ hf _ _ _ _ _ (by omega) (by omega) hw (lv_sub hl [0, 1] rfl)
  · have hf := ip hf c2
    refine lv_iconst (v := (1 : Int32)) hx hb dX10_digest_8 (by decide) ?_
    refine lv_goto (tgt := 13) hx hb dX10_digest_9 (by decide) ?_
    exact bX10_digest_13 C hn _ _ _ _ _ _ hf _ _ _ _ _ (by omega) (by omega) hw (lv_sub hl [0, 1] rfl)
theorem kXX10_digest : MK yX10_digest cX10_digest 5 (some .long) 1 := ⟨w1311, w8, by decide +kernel⟩
theorem mX10_digest {D : va_G} {cy : Nat → ClassId} {s0 : Nat} {l : Launch} {x0 : Nat} {x1 : Int32} {h : Hp} {v : Int64} {h1 : Hp} (hf : fX10_digest x0 x1 h = some (v, h1)) : MT D cy s0 l yX10_digest cX10_digest 5 (some .long) rX10_digest [.ref x0, .int x1] h (some (.long v)) h1 := by
  refine MT.of (by decide +kernel) (Nat.le_of_ble_eq_true rfl) ?_
  intro p e s m below meth c H locs ls C hn hw hl
  exact bX10_digest C hn _ _ _ _ hf _ _ _ _ _ (Nat.le_of_ble_eq_true rfl) (Nat.le_of_ble_eq_true rfl) hw hl
abbrev rX10_entry : Room := { frames := 2, cells := 0, slots := 0, locals := 44 }
abbrev pX10_entry_42 (D : va_G) (cy : Nat → ClassId) (s0 : Nat) (p : Program) (l : Launch) (e : Env) (s : State) (m : MethodId) (args : Array Value) (below : List Frame) (meth : Method) (c : Code) (r : Int32 × Hp)  (h : Hp) : Prop := ∀ (H : Heap) (locs : List Loc) (ls : Array Slot) (cells slots : Nat), cells + (0) ≤ 0 → slots + (0) ≤ 0 → WS D cy s0 s h H locs → lv_has ls 3 [] → W p l e rX10_entry s m args below meth c H locs cells slots (MQ below (QQ D cy s0 (some (.int r.1)) r.2) args s 0 0 (fun q => s0 ≤ q)) (F0 m 42 ls [])
abbrev pX10_entry_13 (D : va_G) (cy : Nat → ClassId) (s0 : Nat) (p : Program) (l : Launch) (e : Env) (s : State) (m : MethodId) (args : Array Value) (below : List Frame) (meth : Method) (c : Code) (r : Int32 × Hp) (x0 : Nat) (x1 : Int32) (x2 : Int32) (y0 : Int32) (y1 : Nat) (h : Hp) : Prop := ∀ (H : Heap) (locs : List Loc) (ls : Array Slot) (cells slots : Nat), cells + (0) ≤ 0 → slots + (0) ≤ 0 → WS D cy s0 s h H locs → lv_has ls 3 [(0, .ref x0), (1, .int x1), (2, .int x2)] → W p l e rX10_entry s m args below meth c H locs cells slots (MQ below (QQ D cy s0 (some (.int r.1)) r.2) args s 0 0 (fun q => s0 ≤ q)) (F0 m 13 ls [.int y0, .ref y1])
abbrev pX10_entry (D : va_G) (cy : Nat → ClassId) (s0 : Nat) (p : Program) (l : Launch) (e : Env) (s : State) (m : MethodId) (args : Array Value) (below : List Frame) (meth : Method) (c : Code) (r : Int32 × Hp) (x0 : Nat) (x1 : Int32) (x2 : Int32) (h : Hp) : Prop := ∀ (H : Heap) (locs : List Loc) (ls : Array Slot) (cells slots : Nat), cells + (0) ≤ 0 → slots + (0) ≤ 0 → WS D cy s0 s h H locs → lv_has ls 3 [(0, .ref x0), (1, .int x1), (2, .int x2)] → W p l e rX10_entry s m args below meth c H locs cells slots (MQ below (QQ D cy s0 (some (.int r.1)) r.2) args s 0 0 (fun q => s0 ≤ q)) (F0 m 0 ls [])
set_option maxRecDepth 100000 in
set_option maxHeartbeats 4000000 in
theorem bX10_entry_42 {D : va_G} {cy : Nat → ClassId} {s0 : Nat} {p : Program} {l : Launch} {e : Env} {s : State} {m : MethodId} {args : Array Value} {below : List Frame} {meth : Method} {c : Code} (C : CX D cy s0 p s m args meth c cX10_entry 3 RX10 (some .int)) (hn : meth.name = "entry") : ∀  (h : Hp) (r : Int32 × Hp), fX10_entry_42  h = some r → pX10_entry_42 D cy s0 p l e s m args below meth c r  h := by
  intro  h ⟨rv, rh⟩ hf H locs ls cells slots hc hs hw hl
  unfold fX10_entry_42 at hf
  have hx := C.1
  have hb := C.2.1
  refine lv_iconst (v := (-1 : Int32)) hx hb dX10_entry_42 (by decide) ?_
  refine lv_goto (tgt := 52) hx hb dX10_entry_43 (by decide) ?_
  obtain ⟨rfl, rfl⟩ := sp hf
  exact r_iret C hw rfl rfl (by omega) (by omega) dX10_entry_52
set_option maxRecDepth 100000 in
set_option maxHeartbeats 4000000 in
theorem bX10_entry_13 {D : va_G} {cy : Nat → ClassId} {s0 : Nat} {p : Program} {l : Launch} {e : Env} {s : State} {m : MethodId} {args : Array Value} {below : List Frame} {meth : Method} {c : Code} (C : CX D cy s0 p s m args meth c cX10_entry 3 RX10 (some .int)) (hn : meth.name = "entry") : ∀ (x0 : Nat) (x1 : Int32) (x2 : Int32) (y0 : Int32) (y1 : Nat) (h : Hp) (r : Int32 × Hp), fX10_entry_13 x0 x1 x2 y0 y1 h = some r → pX10_entry_13 D cy s0 p l e s m args below meth c r x0 x1 x2 y0 y1 h := by
  intro x0 x1 x2 y0 y1 h ⟨rv, rh⟩ hf H locs ls cells slots hc hs hw hl
  unfold fX10_entry_13 at hf
  have hx := C.1
  have hb := C.2.1
  refine lv_iconst (v := (1 : Int32)) hx hb dX10_entry_13 (by decide) ?_
  obtain ⟨kb1, hf⟩ := ig hf
  obtain ⟨z1, h1, e1, hf⟩ := ob2 hf
  refine r_callV C hw (mX10_bad e1) kXX10_bad ck10 rfl kb1 w1132 w1134 v35 ⟨Nat.le_of_ble_eq_true rfl, Nat.le_of_ble_eq_true rfl⟩ rfl hl.1 (rest := []) rfl (Nat.le_of_ble_eq_true rfl) dX10_entry_14 (mc := 0) (ms := 0) rfl rfl ⟨by show _ + 0 ≤ 0; omega, by show _ + 0 ≤ 0; omega⟩ (fun H locs hw => ?_)
  refine W.eq (g2 := F0 m 17 ls [.int z1]) rfl ?_
  refine lv_if_eq (tgt := 22) hx hb dX10_entry_17 (by decide) (fun c2 => ?_) (fun c2 => ?_)
  · have hf := ip hf c2
    refine lv_iload_n hx hb dX10_entry_22 rfl (lv_at hl 2 rfl) ?_
    refine lv_aload_n hx hb dX10_entry_23 rfl (lv_at hl 0 rfl) ?_
    obtain ⟨z3, e3, hf⟩ := ob hf
    refine r_gR C hw e3 ck10 rfl (by decide) w967 dX10_entry_24 ?_
    cases z3 with
    | none =>
      have hf := on_n hf
      cases hf
    | some a4 =>
      have hf := on_s hf
      refine W.eq (g2 := F0 m 27 ls [.ref a4, .int x2]) rfl ?_
      refine lv_iload_n hx hb dX10_entry_27 rfl (lv_at hl 1 rfl) ?_
      obtain ⟨z5, e5, hf⟩ := ob hf
      refine r_iald C hw e5 dX10_entry_28 ?_
      refine lv_icmp_lt (tgt := 42) hx hb dX10_entry_29 (by decide) (fun c6 => ?_) (fun c6 => ?_)
      · have hf := ip hf c6
        exact bX10_entry_42 C hn _ _ hf _ _ _ _ _ (by omega) (by omega) hw (lv_sub hl [] rfl)
      · have hf := ie hf c6
        refine lv_iload_n hx hb dX10_entry_32 rfl (lv_at hl 2 rfl) ?_
        refine lv_aload_n hx hb dX10_entry_33 rfl (lv_at hl 0 rfl) ?_
        obtain ⟨z7, e7, hf⟩ := ob hf
        refine r_gR C hw e7 ck10 rfl (by decide) w968 dX10_entry_34 ?_
        cases z7 with
        | none =>
          have hf := on_n hf
          cases hf
        | some a8 =>
          have hf := on_s hf
          refine W.eq (g2 := F0 m 37 ls [.ref a8, .int x2]) rfl ?_
          refine lv_iload_n hx hb dX10_entry_37 rfl (lv_at hl 1 rfl) ?_
          obtain ⟨z9, e9, hf⟩ := ob hf
          refine r_iald C hw e9 dX10_entry_38 ?_
          refine lv_icmp_le (tgt := 46) hx hb dX10_entry_39 (by decide) (fun c10 => ?_) (fun c10 => ?_)
          · have hf := ip hf c10
            refine lv_aload_n hx hb dX10_entry_46 rfl (lv_at hl 0 rfl) ?_
            refine lv_iload_n hx hb dX10_entry_47 rfl (lv_at hl 1 rfl) ?_
            refine lv_iload_n hx hb dX10_entry_48 rfl (lv_at hl 2 rfl) ?_
            obtain ⟨kb11, hf⟩ := ig hf
            obtain ⟨z11, h11, e11, hf⟩ := ob2 hf
            refine r_callV C hw (mX10_termAt e11) kXX10_termAt ck10 rfl kb11 w1148 w1150 v39 ⟨Nat.le_of_ble_eq_true rfl, Nat.le_of_ble_eq_true rfl⟩ rfl hl.1 (rest := []) rfl (Nat.le_of_ble_eq_true rfl) dX10_entry_49 (mc := 0) (ms := 0) rfl rfl ⟨by show _ + 0 ≤ 0; omega, by show _ + 0 ≤ 0; omega⟩ (fun H locs hw => ?_)
            refine W.eq (g2 := F0 m 52 ls [.int z11]) rfl ?_
            obtain ⟨rfl, rfl⟩ := sp hf
            exact r_iret C hw rfl rfl (by omega) (by omega) dX10_entry_52
          · have hf := ie hf c10
            exact bX10_entry_42 C hn _ _ hf _ _ _ _ _ (by omega) (by omega) hw (lv_sub hl [] rfl)
  · have hf := ie hf c2
    refine lv_iconst (v := (0 : Int32)) hx hb dX10_entry_20 (by decide) ?_
    obtain ⟨rfl, rfl⟩ := sp hf
    exact r_iret C hw rfl rfl (by omega) (by omega) dX10_entry_21
set_option maxRecDepth 100000 in
set_option maxHeartbeats 4000000 in
theorem bX10_entry {D : va_G} {cy : Nat → ClassId} {s0 : Nat} {p : Program} {l : Launch} {e : Env} {s : State} {m : MethodId} {args : Array Value} {below : List Frame} {meth : Method} {c : Code} (C : CX D cy s0 p s m args meth c cX10_entry 3 RX10 (some .int)) (hn : meth.name = "entry") : ∀ (x0 : Nat) (x1 : Int32) (x2 : Int32) (h : Hp) (r : Int32 × Hp), fX10_entry x0 x1 x2 h = some r → pX10_entry D cy s0 p l e s m args below meth c r x0 x1 x2 h := by
  intro x0 x1 x2 h ⟨rv, rh⟩ hf H locs ls cells slots hc hs hw hl
  unfold fX10_entry at hf
  have hx := C.1
  have hb := C.2.1
  refine lv_aload_n hx hb dX10_entry_0 rfl (lv_at hl 0 rfl) ?_
  refine lv_iload_n hx hb dX10_entry_1 rfl (lv_at hl 1 rfl) ?_
  obtain ⟨z1, h1, e1, hf⟩ := ob2 hf
  refine r_callS C hw (mX10_isNode e1) kXX10_isNode w1129 w1130 ⟨Nat.le_of_ble_eq_true rfl, Nat.le_of_ble_eq_true rfl⟩ rfl hl.1 (rest := [.ref x0]) rfl (Nat.le_of_ble_eq_true rfl) dX10_entry_2 (mc := 0) (ms := 0) rfl rfl ⟨by show _ + 0 ≤ 0; omega, by show _ + 0 ≤ 0; omega⟩ (fun H locs hw => ?_)
  refine W.eq (g2 := F0 m 5 ls [.int z1, .ref x0]) rfl ?_
  refine lv_if_ne (tgt := 12) hx hb dX10_entry_5 (by decide) (fun c2 => ?_) (fun c2 => ?_)
  · have hf := ie hf c2
    refine lv_iconst (v := (0 : Int32)) hx hb dX10_entry_12 (by decide) ?_
    exact bX10_entry_13 C hn _ _ _ _ _ _ _ hf _ _ _ _ _ (by omega) (by omega) hw (lv_sub hl [0, 1, 2] rfl)
  · have hf := ip hf c2
    refine lv_iconst (v := (1 : Int32)) hx hb dX10_entry_8 (by decide) ?_
    refine lv_goto (tgt := 13) hx hb dX10_entry_9 (by decide) ?_
    exact bX10_entry_13 C hn _ _ _ _ _ _ _ hf _ _ _ _ _ (by omega) (by omega) hw (lv_sub hl [0, 1, 2] rfl)
theorem kXX10_entry : MK yX10_entry cX10_entry 3 (some .int) 2 := ⟨w1307, w8, by decide +kernel⟩
theorem mX10_entry {D : va_G} {cy : Nat → ClassId} {s0 : Nat} {l : Launch} {x0 : Nat} {x1 : Int32} {x2 : Int32} {h : Hp} {v : Int32} {h1 : Hp} (hf : fX10_entry x0 x1 x2 h = some (v, h1)) : MT D cy s0 l yX10_entry cX10_entry 3 (some .int) rX10_entry [.ref x0, .int x1, .int x2] h (some (.int v)) h1 := by
  refine MT.of (by decide +kernel) (Nat.le_of_ble_eq_true rfl) ?_
  intro p e s m below meth c H locs ls C hn hw hl
  exact bX10_entry C hn _ _ _ _ _ hf _ _ _ _ _ (Nat.le_of_ble_eq_true rfl) (Nat.le_of_ble_eq_true rfl) hw hl
abbrev rX10_event_ : Room := { frames := 5, cells := 0, slots := 0, locals := 122 }
abbrev pX10_event__122 (D : va_G) (cy : Nat → ClassId) (s0 : Nat) (p : Program) (l : Launch) (e : Env) (s : State) (m : MethodId) (args : Array Value) (below : List Frame) (meth : Method) (c : Code) (r : Int64 × Hp) (x0 : Nat) (x3 : Int32) (x4 : Int32) (y0 : Int32) (y1 : Nat) (h : Hp) : Prop := ∀ (H : Heap) (locs : List Loc) (ls : Array Slot) (cells slots : Nat), cells + (0) ≤ 0 → slots + (0) ≤ 0 → WS D cy s0 s h H locs → lv_has ls 5 [(0, .ref x0), (3, .int x3), (4, .int x4)] → W p l e rX10_event_ s m args below meth c H locs cells slots (MQ below (QQ D cy s0 (some (.long r.1)) r.2) args s 0 0 (fun q => s0 ≤ q)) (F0 m 122 ls [.int y0, .ref y1])
abbrev pX10_event__117 (D : va_G) (cy : Nat → ClassId) (s0 : Nat) (p : Program) (l : Launch) (e : Env) (s : State) (m : MethodId) (args : Array Value) (below : List Frame) (meth : Method) (c : Code) (r : Int64 × Hp) (x0 : Nat) (x3 : Int32) (x4 : Int32) (y0 : Nat) (h : Hp) : Prop := ∀ (H : Heap) (locs : List Loc) (ls : Array Slot) (cells slots : Nat), cells + (0) ≤ 0 → slots + (0) ≤ 0 → WS D cy s0 s h H locs → lv_has ls 5 [(0, .ref x0), (3, .int x3), (4, .int x4)] → W p l e rX10_event_ s m args below meth c H locs cells slots (MQ below (QQ D cy s0 (some (.long r.1)) r.2) args s 0 0 (fun q => s0 ≤ q)) (F0 m 117 ls [.ref y0])
abbrev pX10_event__101 (D : va_G) (cy : Nat → ClassId) (s0 : Nat) (p : Program) (l : Launch) (e : Env) (s : State) (m : MethodId) (args : Array Value) (below : List Frame) (meth : Method) (c : Code) (r : Int64 × Hp) (x0 : Nat) (x3 : Int32) (x4 : Int32) (h : Hp) : Prop := ∀ (H : Heap) (locs : List Loc) (ls : Array Slot) (cells slots : Nat), cells + (0) ≤ 0 → slots + (0) ≤ 0 → WS D cy s0 s h H locs → lv_has ls 5 [(0, .ref x0), (3, .int x3), (4, .int x4)] → W p l e rX10_event_ s m args below meth c H locs cells slots (MQ below (QQ D cy s0 (some (.long r.1)) r.2) args s 0 0 (fun q => s0 ≤ q)) (F0 m 101 ls [])
abbrev pX10_event__75 (D : va_G) (cy : Nat → ClassId) (s0 : Nat) (p : Program) (l : Launch) (e : Env) (s : State) (m : MethodId) (args : Array Value) (below : List Frame) (meth : Method) (c : Code) (r : Int64 × Hp) (x0 : Nat) (x2 : Int32) (x3 : Int32) (x4 : Int32) (h : Hp) : Prop := ∀ (H : Heap) (locs : List Loc) (ls : Array Slot) (cells slots : Nat), cells + (0) ≤ 0 → slots + (0) ≤ 0 → WS D cy s0 s h H locs → lv_has ls 5 [(0, .ref x0), (2, .int x2), (3, .int x3), (4, .int x4)] → W p l e rX10_event_ s m args below meth c H locs cells slots (MQ below (QQ D cy s0 (some (.long r.1)) r.2) args s 0 0 (fun q => s0 ≤ q)) (F0 m 75 ls [])
abbrev pX10_event__63 (D : va_G) (cy : Nat → ClassId) (s0 : Nat) (p : Program) (l : Launch) (e : Env) (s : State) (m : MethodId) (args : Array Value) (below : List Frame) (meth : Method) (c : Code) (r : Int64 × Hp) (x0 : Nat) (x2 : Int32) (x3 : Int32) (y0 : Int32) (y1 : Nat) (h : Hp) : Prop := ∀ (H : Heap) (locs : List Loc) (ls : Array Slot) (cells slots : Nat), cells + (0) ≤ 0 → slots + (0) ≤ 0 → WS D cy s0 s h H locs → lv_has ls 5 [(0, .ref x0), (2, .int x2), (3, .int x3)] → W p l e rX10_event_ s m args below meth c H locs cells slots (MQ below (QQ D cy s0 (some (.long r.1)) r.2) args s 0 0 (fun q => s0 ≤ q)) (F0 m 63 ls [.int y0, .ref y1])
abbrev pX10_event__35 (D : va_G) (cy : Nat → ClassId) (s0 : Nat) (p : Program) (l : Launch) (e : Env) (s : State) (m : MethodId) (args : Array Value) (below : List Frame) (meth : Method) (c : Code) (r : Int64 × Hp) (x0 : Nat) (x1 : Int32) (x2 : Int32) (x3 : Int32) (y0 : Int32) (y1 : Nat) (h : Hp) : Prop := ∀ (H : Heap) (locs : List Loc) (ls : Array Slot) (cells slots : Nat), cells + (0) ≤ 0 → slots + (0) ≤ 0 → WS D cy s0 s h H locs → lv_has ls 5 [(0, .ref x0), (1, .int x1), (2, .int x2), (3, .int x3)] → W p l e rX10_event_ s m args below meth c H locs cells slots (MQ below (QQ D cy s0 (some (.long r.1)) r.2) args s 0 0 (fun q => s0 ≤ q)) (F0 m 35 ls [.int y0, .ref y1])
abbrev pX10_event__13 (D : va_G) (cy : Nat → ClassId) (s0 : Nat) (p : Program) (l : Launch) (e : Env) (s : State) (m : MethodId) (args : Array Value) (below : List Frame) (meth : Method) (c : Code) (r : Int64 × Hp) (x0 : Nat) (x1 : Int32) (x2 : Int32) (x3 : Int32) (y0 : Int32) (y1 : Nat) (h : Hp) : Prop := ∀ (H : Heap) (locs : List Loc) (ls : Array Slot) (cells slots : Nat), cells + (0) ≤ 0 → slots + (0) ≤ 0 → WS D cy s0 s h H locs → lv_has ls 5 [(0, .ref x0), (1, .int x1), (2, .int x2), (3, .int x3)] → W p l e rX10_event_ s m args below meth c H locs cells slots (MQ below (QQ D cy s0 (some (.long r.1)) r.2) args s 0 0 (fun q => s0 ≤ q)) (F0 m 13 ls [.int y0, .ref y1])
abbrev pX10_event_ (D : va_G) (cy : Nat → ClassId) (s0 : Nat) (p : Program) (l : Launch) (e : Env) (s : State) (m : MethodId) (args : Array Value) (below : List Frame) (meth : Method) (c : Code) (r : Int64 × Hp) (x0 : Nat) (x1 : Int32) (x2 : Int32) (x3 : Int32) (h : Hp) : Prop := ∀ (H : Heap) (locs : List Loc) (ls : Array Slot) (cells slots : Nat), cells + (0) ≤ 0 → slots + (0) ≤ 0 → WS D cy s0 s h H locs → lv_has ls 5 [(0, .ref x0), (1, .int x1), (2, .int x2), (3, .int x3)] → W p l e rX10_event_ s m args below meth c H locs cells slots (MQ below (QQ D cy s0 (some (.long r.1)) r.2) args s 0 0 (fun q => s0 ≤ q)) (F0 m 0 ls [])
set_option maxRecDepth 100000 in
set_option maxHeartbeats 4000000 in
theorem bX10_event__122 {D : va_G} {cy : Nat → ClassId} {s0 : Nat} {p : Program} {l : Launch} {e : Env} {s : State} {m : MethodId} {args : Array Value} {below : List Frame} {meth : Method} {c : Code} (C : CX D cy s0 p s m args meth c cX10_event_ 5 RX10 (some .long)) (hn : meth.name = "event") : ∀ (x0 : Nat) (x3 : Int32) (x4 : Int32) (y0 : Int32) (y1 : Nat) (h : Hp) (r : Int64 × Hp), fX10_event__122 x0 x3 x4 y0 y1 h = some r → pX10_event__122 D cy s0 p l e s m args below meth c r x0 x3 x4 y0 y1 h := by
  intro x0 x3 x4 y0 y1 h ⟨rv, rh⟩ hf H locs ls cells slots hc hs hw hl
  unfold fX10_event__122 at hf
  have hx := C.1
  have hb := C.2.1
  refine lv_iconst (v := (1 : Int32)) hx hb dX10_event__122 (by decide) ?_
  obtain ⟨kb1, hf⟩ := ig hf
  obtain ⟨z1, h1, e1, hf⟩ := ob2 hf
  refine r_callV C hw (mX10_bad e1) kXX10_bad ck10 rfl kb1 w1132 w1134 v35 ⟨Nat.le_of_ble_eq_true rfl, Nat.le_of_ble_eq_true rfl⟩ rfl hl.1 (rest := []) rfl (Nat.le_of_ble_eq_true rfl) dX10_event__123 (mc := 0) (ms := 0) rfl rfl ⟨by show _ + 0 ≤ 0; omega, by show _ + 0 ≤ 0; omega⟩ (fun H locs hw => ?_)
  refine W.eq (g2 := F0 m 126 ls [.int z1]) rfl ?_
  refine lv_if_eq (tgt := 133) hx hb dX10_event__126 (by decide) (fun c2 => ?_) (fun c2 => ?_)
  · have hf := ip hf c2
    refine lv_aload_n hx hb dX10_event__133 rfl (lv_at hl 0 rfl) ?_
    refine lv_iload hx hb dX10_event__134 (lv_at hl 2 rfl) ?_
    refine lv_iload_n hx hb dX10_event__136 rfl (lv_at hl 1 rfl) ?_
    refine lv_iadd hx hb dX10_event__137 ?_
    obtain ⟨kb3, hf⟩ := ig hf
    obtain ⟨z3, h3, e3, hf⟩ := ob2 hf
    refine r_callV C hw (mX10_coded e3) kXX10_coded ck10 rfl kb3 w1289 w1291 v61 ⟨Nat.le_of_ble_eq_true rfl, Nat.le_of_ble_eq_true rfl⟩ rfl hl.1 (rest := []) rfl (Nat.le_of_ble_eq_true rfl) dX10_event__138 (mc := 0) (ms := 0) rfl rfl ⟨by show _ + 0 ≤ 0; omega, by show _ + 0 ≤ 0; omega⟩ (fun H locs hw => ?_)
    refine W.eq (g2 := F0 m 141 ls [.long z3]) rfl ?_
    obtain ⟨rfl, rfl⟩ := sp hf
    exact r_lret C hw rfl (by omega) (by omega) dX10_event__141
  · have hf := ie hf c2
    refine lv_lconst (v := (0 : Int64)) hx hb dX10_event__129 rfl ?_
    refine lv_goto (tgt := 141) hx hb dX10_event__130 (by decide) ?_
    obtain ⟨rfl, rfl⟩ := sp hf
    exact r_lret C hw rfl (by omega) (by omega) dX10_event__141
set_option maxRecDepth 100000 in
set_option maxHeartbeats 4000000 in
theorem bX10_event__117 {D : va_G} {cy : Nat → ClassId} {s0 : Nat} {p : Program} {l : Launch} {e : Env} {s : State} {m : MethodId} {args : Array Value} {below : List Frame} {meth : Method} {c : Code} (C : CX D cy s0 p s m args meth c cX10_event_ 5 RX10 (some .long)) (hn : meth.name = "event") : ∀ (x0 : Nat) (x3 : Int32) (x4 : Int32) (y0 : Nat) (h : Hp) (r : Int64 × Hp), fX10_event__117 x0 x3 x4 y0 h = some r → pX10_event__117 D cy s0 p l e s m args below meth c r x0 x3 x4 y0 h := by
  intro x0 x3 x4 y0 h ⟨rv, rh⟩ hf H locs ls cells slots hc hs hw hl
  unfold fX10_event__117 at hf
  have hx := C.1
  have hb := C.2.1
  refine lv_iconst (v := (1 : Int32)) hx hb dX10_event__117 (by decide) ?_
  refine lv_goto (tgt := 122) hx hb dX10_event__118 (by decide) ?_
  exact bX10_event__122 C hn _ _ _ _ _ _ _ hf _ _ _ _ _ (by omega) (by omega) hw (lv_sub hl [0, 1, 2] rfl)
set_option maxRecDepth 100000 in
set_option maxHeartbeats 4000000 in
theorem bX10_event__101 {D : va_G} {cy : Nat → ClassId} {s0 : Nat} {p : Program} {l : Launch} {e : Env} {s : State} {m : MethodId} {args : Array Value} {below : List Frame} {meth : Method} {c : Code} (C : CX D cy s0 p s m args meth c cX10_event_ 5 RX10 (some .long)) (hn : meth.name = "event") : ∀ (x0 : Nat) (x3 : Int32) (x4 : Int32) (h : Hp) (r : Int64 × Hp), fX10_event__101 x0 x3 x4 h = some r → pX10_event__101 D cy s0 p l e s m args below meth c r x0 x3 x4 h := by
  intro x0 x3 x4 h ⟨rv, rh⟩ hf H locs ls cells slots hc hs hw hl
  unfold fX10_event__101 at hf
  have hx := C.1
  have hb := C.2.1
  refine lv_aload_n hx hb dX10_event__101 rfl (lv_at hl 0 rfl) ?_
  refine lv_iload_n hx hb dX10_event__102 rfl (lv_at hl 1 rfl) ?_
  refine lv_if_lt (tgt := 117) hx hb dX10_event__103 (by decide) (fun c1 => ?_) (fun c1 => ?_)
  · have hf := ip hf c1
    exact bX10_event__117 C hn _ _ _ _ _ _ hf _ _ _ _ _ (by omega) (by omega) hw (lv_sub hl [0, 1, 2] rfl)
  · have hf := ie hf c1
    refine lv_iload_n hx hb dX10_event__106 rfl (lv_at hl 1 rfl) ?_
    refine lv_aload_n hx hb dX10_event__107 rfl (lv_at hl 0 rfl) ?_
    obtain ⟨z2, e2, hf⟩ := ob hf
    refine r_gI C hw e2 ck10 rfl (by decide) w1010 dX10_event__108 ?_
    refine lv_iload hx hb dX10_event__111 (lv_at hl 2 rfl) ?_
    refine lv_isub hx hb dX10_event__113 ?_
    refine lv_icmp_lt (tgt := 121) hx hb dX10_event__114 (by decide) (fun c3 => ?_) (fun c3 => ?_)
    · have hf := ip hf c3
      refine lv_iconst (v := (0 : Int32)) hx hb dX10_event__121 (by decide) ?_
      exact bX10_event__122 C hn _ _ _ _ _ _ _ hf _ _ _ _ _ (by omega) (by omega) hw (lv_sub hl [0, 1, 2] rfl)
    · have hf := ie hf c3
      exact bX10_event__117 C hn _ _ _ _ _ _ hf _ _ _ _ _ (by omega) (by omega) hw (lv_sub hl [0, 1, 2] rfl)
set_option maxRecDepth 100000 in
set_option maxHeartbeats 4000000 in
theorem bX10_event__75_body {D : va_G} {cy : Nat → ClassId} {s0 : Nat} {p : Program} {l : Launch} {e : Env} {s : State} {m : MethodId} {args : Array Value} {below : List Frame} {meth : Method} {c : Code} (C : CX D cy s0 p s m args meth c cX10_event_ 5 RX10 (some .long)) (hn : meth.name = "event") {k75 : Nat → Int32 → Int32 → Int32 → Hp → Option (Int64 × Hp)} (hk75 : ∀ (x0 : Nat) (x2 : Int32) (x3 : Int32) (x4 : Int32) (h : Hp) (r : Int64 × Hp), k75 x0 x2 x3 x4 h = some r → pX10_event__75 D cy s0 p l e s m args below meth c r x0 x2 x3 x4 h) : ∀ (x0 : Nat) (x2 : Int32) (x3 : Int32) (x4 : Int32) (h : Hp) (r : Int64 × Hp), fX10_event__75_body k75 x0 x2 x3 x4 h = some r → pX10_event__75 D cy s0 p l e s m args below meth c r x0 x2 x3 x4 h := by
  intro x0 x2 x3 x4 h ⟨rv, rh⟩ hf H locs ls cells slots hc hs hw hl
  unfold fX10_event__75_body at hf
  have hx := C.1
  have hb := C.2.1
  refine lv_iload hx hb dX10_event__75 (lv_at hl 3 rfl) ?_
  refine lv_aload_n hx hb dX10_event__77 rfl (lv_at hl 0 rfl) ?_
  obtain ⟨z1, e1, hf⟩ := ob hf
  refine r_gI C hw e1 ck10 rfl (by decide) w1010 dX10_event__78 ?_
  refine lv_icmp_ge (tgt := 101) hx hb dX10_event__81 (by decide) (fun c2 => ?_) (fun c2 => ?_)
  · have hf := ip hf c2
    exact bX10_event__101 C hn _ _ _ _ _ hf _ _ _ _ _ (by omega) (by omega) hw (lv_sub hl [0, 2, 3] rfl)
  · have hf := ie hf c2
    refine lv_aload_n hx hb dX10_event__84 rfl (lv_at hl 0 rfl) ?_
    obtain ⟨z3, e3, hf⟩ := ob hf
    refine r_gR C hw e3 ck10 rfl (by decide) w1006 dX10_event__85 ?_
    cases z3 with
    | none =>
      have hf := on_n hf
      cases hf
    | some a4 =>
      have hf := on_s hf
      refine W.eq (g2 := F0 m 88 ls [.ref a4]) rfl ?_
      refine lv_iload hx hb dX10_event__88 (lv_at hl 3 rfl) ?_
      obtain ⟨z5, e5, hf⟩ := ob hf
      refine r_iald C hw e5 dX10_event__90 ?_
      refine lv_iload_n hx hb dX10_event__91 rfl (lv_at hl 1 rfl) ?_
      refine lv_icmp_ge (tgt := 101) hx hb dX10_event__92 (by decide) (fun c6 => ?_) (fun c6 => ?_)
      · have hf := ip hf c6
        exact bX10_event__101 C hn _ _ _ _ _ hf _ _ _ _ _ (by omega) (by omega) hw (lv_sub hl [0, 2, 3] rfl)
      · have hf := ie hf c6
        refine lv_iinc (v := (x4 + (1 : Int32))) (lv' := [(4, .int (x4 + (1 : Int32))), (0, .ref x0), (2, .int x2), (3, .int x3)]) hx hb dX10_event__95 hl (k := 3) rfl rfl (by decide) rfl (fun ls hl => ?_)
        refine lv_goto (tgt := 75) hx hb dX10_event__98 (by decide) ?_
        exact hk75 _ _ _ _ _ _ hf _ _ _ _ _ (by omega) (by omega) hw (lv_sub hl [1, 2, 3, 0] rfl)
set_option maxRecDepth 100000 in
set_option maxHeartbeats 4000000 in
theorem bX10_event__75 {D : va_G} {cy : Nat → ClassId} {s0 : Nat} {p : Program} {l : Launch} {e : Env} {s : State} {m : MethodId} {args : Array Value} {below : List Frame} {meth : Method} {c : Code} (C : CX D cy s0 p s m args meth c cX10_event_ 5 RX10 (some .long)) (hn : meth.name = "event") : ∀ (n : Nat) (x0 : Nat) (x2 : Int32) (x3 : Int32) (x4 : Int32) (h : Hp) (r : Int64 × Hp), fX10_event__75 n x0 x2 x3 x4 h = some r → pX10_event__75 D cy s0 p l e s m args below meth c r x0 x2 x3 x4 h := by
  intro n
  induction n with
  | zero => intro x0 x2 x3 x4 h r hf; exact absurd hf (fun q => by cases q)
  | succ n ih => exact bX10_event__75_body C hn ih
set_option maxRecDepth 100000 in
set_option maxHeartbeats 4000000 in
theorem bX10_event__63 {D : va_G} {cy : Nat → ClassId} {s0 : Nat} {p : Program} {l : Launch} {e : Env} {s : State} {m : MethodId} {args : Array Value} {below : List Frame} {meth : Method} {c : Code} (C : CX D cy s0 p s m args meth c cX10_event_ 5 RX10 (some .long)) (hn : meth.name = "event") : ∀ (x0 : Nat) (x2 : Int32) (x3 : Int32) (y0 : Int32) (y1 : Nat) (h : Hp) (r : Int64 × Hp), fX10_event__63 x0 x2 x3 y0 y1 h = some r → pX10_event__63 D cy s0 p l e s m args below meth c r x0 x2 x3 y0 y1 h := by
  intro x0 x2 x3 y0 y1 h ⟨rv, rh⟩ hf H locs ls cells slots hc hs hw hl
  unfold fX10_event__63 at hf
  have hx := C.1
  have hb := C.2.1
  refine lv_iconst (v := (3 : Int32)) hx hb dX10_event__63 (by decide) ?_
  obtain ⟨kb1, hf⟩ := ig hf
  obtain ⟨z1, h1, e1, hf⟩ := ob2 hf
  refine r_callV C hw (mX10_bad e1) kXX10_bad ck10 rfl kb1 w1132 w1134 v35 ⟨Nat.le_of_ble_eq_true rfl, Nat.le_of_ble_eq_true rfl⟩ rfl hl.1 (rest := []) rfl (Nat.le_of_ble_eq_true rfl) dX10_event__64 (mc := 0) (ms := 0) rfl rfl ⟨by show _ + 0 ≤ 0; omega, by show _ + 0 ≤ 0; omega⟩ (fun H locs hw => ?_)
  refine W.eq (g2 := F0 m 67 ls [.int z1]) rfl ?_
  refine lv_if_eq (tgt := 72) hx hb dX10_event__67 (by decide) (fun c2 => ?_) (fun c2 => ?_)
  · have hf := ip hf c2
    refine lv_iconst (v := (0 : Int32)) hx hb dX10_event__72 (by decide) ?_
    refine lv_istore (lv' := [(4, .int (0 : Int32)), (0, .ref x0), (2, .int x2), (3, .int x3)]) hx hb dX10_event__73 hl (by decide) rfl (fun ls hl => ?_)
    exact bX10_event__75 C hn LF _ _ _ _ _ _ hf _ _ _ _ _ (by omega) (by omega) hw (lv_sub hl [1, 2, 3, 0] rfl)
  · have hf := ie hf c2
    refine lv_lconst (v := (0 : Int64)) hx hb dX10_event__70 rfl ?_
    obtain ⟨rfl, rfl⟩ := sp hf
    exact r_lret C hw rfl (by omega) (by omega) dX10_event__71
set_option maxRecDepth 100000 in
set_option maxHeartbeats 4000000 in
theorem bX10_event__35 {D : va_G} {cy : Nat → ClassId} {s0 : Nat} {p : Program} {l : Launch} {e : Env} {s : State} {m : MethodId} {args : Array Value} {below : List Frame} {meth : Method} {c : Code} (C : CX D cy s0 p s m args meth c cX10_event_ 5 RX10 (some .long)) (hn : meth.name = "event") : ∀ (x0 : Nat) (x1 : Int32) (x2 : Int32) (x3 : Int32) (y0 : Int32) (y1 : Nat) (h : Hp) (r : Int64 × Hp), fX10_event__35 x0 x1 x2 x3 y0 y1 h = some r → pX10_event__35 D cy s0 p l e s m args below meth c r x0 x1 x2 x3 y0 y1 h := by
  intro x0 x1 x2 x3 y0 y1 h ⟨rv, rh⟩ hf H locs ls cells slots hc hs hw hl
  unfold fX10_event__35 at hf
  have hx := C.1
  have hb := C.2.1
  refine lv_iconst (v := (2 : Int32)) hx hb dX10_event__35 (by decide) ?_
  obtain ⟨kb1, hf⟩ := ig hf
  obtain ⟨z1, h1, e1, hf⟩ := ob2 hf
  refine r_callV C hw (mX10_bad e1) kXX10_bad ck10 rfl kb1 w1132 w1134 v35 ⟨Nat.le_of_ble_eq_true rfl, Nat.le_of_ble_eq_true rfl⟩ rfl hl.1 (rest := []) rfl (Nat.le_of_ble_eq_true rfl) dX10_event__36 (mc := 0) (ms := 0) rfl rfl ⟨by show _ + 0 ≤ 0; omega, by show _ + 0 ≤ 0; omega⟩ (fun H locs hw => ?_)
  refine W.eq (g2 := F0 m 39 ls [.int z1]) rfl ?_
  refine lv_if_eq (tgt := 44) hx hb dX10_event__39 (by decide) (fun c2 => ?_) (fun c2 => ?_)
  · have hf := ip hf c2
    refine lv_aload_n hx hb dX10_event__44 rfl (lv_at hl 0 rfl) ?_
    refine lv_iload_n hx hb dX10_event__45 rfl (lv_at hl 1 rfl) ?_
    obtain ⟨kb3, hf⟩ := ig hf
    obtain ⟨z3, h3, e3, hf⟩ := ob2 hf
    refine r_callV C hw (mX10_work e3) kXX10_work ck10 rfl kb3 w1245 w1247 v53 ⟨Nat.le_of_ble_eq_true rfl, Nat.le_of_ble_eq_true rfl⟩ rfl hl.1 (rest := []) rfl (Nat.le_of_ble_eq_true rfl) dX10_event__46 (mc := 0) (ms := 0) rfl rfl ⟨by show _ + 0 ≤ 0; omega, by show _ + 0 ≤ 0; omega⟩ (fun H locs hw => ?_)
    refine W.eq (g2 := F0 m 49 ls []) rfl ?_
    refine lv_aload_n hx hb dX10_event__49 rfl (lv_at hl 0 rfl) ?_
    refine lv_iload_n hx hb dX10_event__50 rfl (lv_at hl 2 rfl) ?_
    refine lv_aload_n hx hb dX10_event__51 rfl (lv_at hl 0 rfl) ?_
    obtain ⟨z4, e4, hf⟩ := ob hf
    refine r_gI C hw e4 ck10 rfl (by decide) w1005 dX10_event__52 ?_
    refine lv_icmp_gt (tgt := 62) hx hb dX10_event__55 (by decide) (fun c5 => ?_) (fun c5 => ?_)
    · have hf := ip hf c5
      refine lv_iconst (v := (0 : Int32)) hx hb dX10_event__62 (by decide) ?_
      exact bX10_event__63 C hn _ _ _ _ _ _ _ hf _ _ _ _ _ (by omega) (by omega) hw (lv_sub hl [0, 2, 3] rfl)
    · have hf := ie hf c5
      refine lv_iconst (v := (1 : Int32)) hx hb dX10_event__58 (by decide) ?_
      refine lv_goto (tgt := 63) hx hb dX10_event__59 (by decide) ?_
      exact bX10_event__63 C hn _ _ _ _ _ _ _ hf _ _ _ _ _ (by omega) (by omega) hw (lv_sub hl [0, 2, 3] rfl)
  · have hf := ie hf c2
    refine lv_lconst (v := (0 : Int64)) hx hb dX10_event__42 rfl ?_
    obtain ⟨rfl, rfl⟩ := sp hf
    exact r_lret C hw rfl (by omega) (by omega) dX10_event__43
set_option maxRecDepth 100000 in
set_option maxHeartbeats 4000000 in
theorem bX10_event__13 {D : va_G} {cy : Nat → ClassId} {s0 : Nat} {p : Program} {l : Launch} {e : Env} {s : State} {m : MethodId} {args : Array Value} {below : List Frame} {meth : Method} {c : Code} (C : CX D cy s0 p s m args meth c cX10_event_ 5 RX10 (some .long)) (hn : meth.name = "event") : ∀ (x0 : Nat) (x1 : Int32) (x2 : Int32) (x3 : Int32) (y0 : Int32) (y1 : Nat) (h : Hp) (r : Int64 × Hp), fX10_event__13 x0 x1 x2 x3 y0 y1 h = some r → pX10_event__13 D cy s0 p l e s m args below meth c r x0 x1 x2 x3 y0 y1 h := by
  intro x0 x1 x2 x3 y0 y1 h ⟨rv, rh⟩ hf H locs ls cells slots hc hs hw hl
  unfold fX10_event__13 at hf
  have hx := C.1
  have hb := C.2.1
  refine lv_iconst (v := (1 : Int32)) hx hb dX10_event__13 (by decide) ?_
  obtain ⟨kb1, hf⟩ := ig hf
  obtain ⟨z1, h1, e1, hf⟩ := ob2 hf
  refine r_callV C hw (mX10_bad e1) kXX10_bad ck10 rfl kb1 w1132 w1134 v35 ⟨Nat.le_of_ble_eq_true rfl, Nat.le_of_ble_eq_true rfl⟩ rfl hl.1 (rest := []) rfl (Nat.le_of_ble_eq_true rfl) dX10_event__14 (mc := 0) (ms := 0) rfl rfl ⟨by show _ + 0 ≤ 0; omega, by show _ + 0 ≤ 0; omega⟩ (fun H locs hw => ?_)
  refine W.eq (g2 := F0 m 17 ls [.int z1]) rfl ?_
  refine lv_if_ne (tgt := 42) hx hb dX10_event__17 (by decide) (fun c2 => ?_) (fun c2 => ?_)
  · have hf := ie hf c2
    refine lv_lconst (v := (0 : Int64)) hx hb dX10_event__42 rfl ?_
    obtain ⟨rfl, rfl⟩ := sp hf
    exact r_lret C hw rfl (by omega) (by omega) dX10_event__43
  · have hf := ip hf c2
    refine lv_aload_n hx hb dX10_event__20 rfl (lv_at hl 0 rfl) ?_
    refine lv_aload_n hx hb dX10_event__21 rfl (lv_at hl 0 rfl) ?_
    obtain ⟨z3, e3, hf⟩ := ob hf
    refine r_gR C hw e3 ck10 rfl (by decide) w964 dX10_event__22 ?_
    cases z3 with
    | none =>
      have hf := on_n hf
      cases hf
    | some a4 =>
      have hf := on_s hf
      refine W.eq (g2 := F0 m 25 ls [.ref a4, .ref x0]) rfl ?_
      refine lv_iload_n hx hb dX10_event__25 rfl (lv_at hl 1 rfl) ?_
      obtain ⟨z5, e5, hf⟩ := ob hf
      refine r_zald C hw e5 dX10_event__26 ?_
      refine lv_if_ne (tgt := 34) hx hb dX10_event__27 (by decide) (fun c6 => ?_) (fun c6 => ?_)
      · have hf := ie hf c6
        refine lv_iconst (v := (0 : Int32)) hx hb dX10_event__34 (by decide) ?_
        exact bX10_event__35 C hn _ _ _ _ _ _ _ _ hf _ _ _ _ _ (by omega) (by omega) hw (lv_sub hl [0, 1, 2, 3] rfl)
      · have hf := ip hf c6
        refine lv_iconst (v := (1 : Int32)) hx hb dX10_event__30 (by decide) ?_
        refine lv_goto (tgt := 35) hx hb dX10_event__31 (by decide) ?_
        exact bX10_event__35 C hn _ _ _ _ _ _ _ _ hf _ _ _ _ _ (by omega) (by omega) hw (lv_sub hl [0, 1, 2, 3] rfl)
set_option maxRecDepth 100000 in
set_option maxHeartbeats 4000000 in
theorem bX10_event_ {D : va_G} {cy : Nat → ClassId} {s0 : Nat} {p : Program} {l : Launch} {e : Env} {s : State} {m : MethodId} {args : Array Value} {below : List Frame} {meth : Method} {c : Code} (C : CX D cy s0 p s m args meth c cX10_event_ 5 RX10 (some .long)) (hn : meth.name = "event") : ∀ (x0 : Nat) (x1 : Int32) (x2 : Int32) (x3 : Int32) (h : Hp) (r : Int64 × Hp), fX10_event_ x0 x1 x2 x3 h = some r → pX10_event_ D cy s0 p l e s m args below meth c r x0 x1 x2 x3 h := by
  intro x0 x1 x2 x3 h ⟨rv, rh⟩ hf H locs ls cells slots hc hs hw hl
  unfold fX10_event_ at hf
  have hx := C.1
  have hb := C.2.1
  refine lv_aload_n hx hb dX10_event__0 rfl (lv_at hl 0 rfl) ?_
  refine lv_iload_n hx hb dX10_event__1 rfl (lv_at hl 1 rfl) ?_
  obtain ⟨z1, h1, e1, hf⟩ := ob2 hf
  refine r_callS C hw (mX10_isNode e1) kXX10_isNode w1129 w1130 ⟨Nat.le_of_ble_eq_true rfl, Nat.le_of_ble_eq_true rfl⟩ rfl hl.1 (rest := [.ref x0]) rfl (Nat.le_of_ble_eq_true rfl) dX10_event__2 (mc := 0) (ms := 0) rfl rfl ⟨by show _ + 0 ≤ 0; omega, by show _ + 0 ≤ 0; omega⟩ (fun H locs hw => ?_)
  refine W.eq (g2 := F0 m 5 ls [.int z1, .ref x0]) rfl ?_
  refine lv_if_ne (tgt := 12) hx hb dX10_event__5 (by decide) (fun c2 => ?_) (fun c2 => ?_)
  · have hf := ie hf c2
    refine lv_iconst (v := (0 : Int32)) hx hb dX10_event__12 (by decide) ?_
    exact bX10_event__13 C hn _ _ _ _ _ _ _ _ hf _ _ _ _ _ (by omega) (by omega) hw (lv_sub hl [0, 1, 2, 3] rfl)
  · have hf := ip hf c2
    refine lv_iconst (v := (1 : Int32)) hx hb dX10_event__8 (by decide) ?_
    refine lv_goto (tgt := 13) hx hb dX10_event__9 (by decide) ?_
    exact bX10_event__13 C hn _ _ _ _ _ _ _ _ hf _ _ _ _ _ (by omega) (by omega) hw (lv_sub hl [0, 1, 2, 3] rfl)
theorem kXX10_event_ : MK yX10_event_ cX10_event_ 5 (some .long) 3 := ⟨w1288, w8, by decide +kernel⟩
theorem mX10_event_ {D : va_G} {cy : Nat → ClassId} {s0 : Nat} {l : Launch} {x0 : Nat} {x1 : Int32} {x2 : Int32} {x3 : Int32} {h : Hp} {v : Int64} {h1 : Hp} (hf : fX10_event_ x0 x1 x2 x3 h = some (v, h1)) : MT D cy s0 l yX10_event_ cX10_event_ 5 (some .long) rX10_event_ [.ref x0, .int x1, .int x2, .int x3] h (some (.long v)) h1 := by
  refine MT.of (by decide +kernel) (Nat.le_of_ble_eq_true rfl) ?_
  intro p e s m below meth c H locs ls C hn hw hl
  exact bX10_event_ C hn _ _ _ _ _ _ hf _ _ _ _ _ (Nat.le_of_ble_eq_true rfl) (Nat.le_of_ble_eq_true rfl) hw hl
