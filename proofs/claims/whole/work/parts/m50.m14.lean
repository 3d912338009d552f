abbrev rX8_seeLeader : Room := { frames := 0, cells := 0, slots := 0, locals := 0 }
abbrev pX8_seeLeader_45 (D : va_G) (cy : Nat → ClassId) (s0 : Nat) (p : Program) (l : Launch) (e : Env) (s : State) (m : MethodId) (args : Array Value) (below : List Frame) (meth : Method) (c : Code) (r : Unit × Hp) (x0 : Nat) (x1 : Int32) (x2 : Int32) (h : Hp) : Prop := ∀ (H : Heap) (locs : List Loc) (ls : Array Slot) (cells slots : Nat), cells + (0) ≤ 0 → slots + (0) ≤ 0 → WS D cy s0 s h H locs → lv_has ls 3 [(0, .ref x0), (1, .int x1), (2, .int x2)] → W p l e rX8_seeLeader s m args below meth c H locs cells slots (MQ below (QQ D cy s0 none r.2) args s 0 0 (fun q => s0 ≤ q)) (F0 m 45 ls [])
abbrev pX8_seeLeader (D : va_G) (cy : Nat → ClassId) (s0 : Nat) (p : Program) (l : Launch) (e : Env) (s : State) (m : MethodId) (args : Array Value) (below : List Frame) (meth : Method) (c : Code) (r : Unit × Hp) (x0 : Nat) (x1 : Int32) (x2 : Int32) (h : Hp) : Prop := ∀ (H : Heap) (locs : List Loc) (ls : Array Slot) (cells slots : Nat), cells + (0) ≤ 0 → slots + (0) ≤ 0 → WS D cy s0 s h H locs → lv_has ls 3 [(0, .ref x0), (1, .int x1), (2, .int x2)] → W p l e rX8_seeLeader s m args below meth c H locs cells slots (MQ below (QQ D cy s0 none r.2) args s 0 0 (fun q => s0 ≤ q)) (F0 m 0 ls [])
set_option maxRecDepth 100000 in
set_option maxHeartbeats 4000000 in
theorem bX8_seeLeader_45 {D : va_G} {cy : Nat → ClassId} {s0 : Nat} {p : Program} {l : Launch} {e : Env} {s : State} {m : MethodId} {args : Array Value} {below : List Frame} {meth : Method} {c : Code} (C : CX D cy s0 p s m args meth c cX8_seeLeader 3 RX8 none) (hn : meth.name = "seeLeader") : ∀ (x0 : Nat) (x1 : Int32) (x2 : Int32) (h : Hp) (r : Unit × Hp), fX8_seeLeader_45 x0 x1 x2 h = some r → pX8_seeLeader_45 D cy s0 p l e s m args below meth c r x0 x1 x2 h := by
  intro x0 x1 x2 h ⟨rv, rh⟩ hf H locs ls cells slots hc hs hw hl
  unfold fX8_seeLeader_45 at hf
  have hx := C.1
  have hb := C.2.1
  refine lv_aload_n hx hb dX8_seeLeader_45 rfl (lv_at hl 0 rfl) ?_
  obtain ⟨z1, e1, hf⟩ := ob hf
  refine r_gR C hw e1 ck8 rfl (by decide) w58 dX8_seeLeader_46 ?_
  cases z1 with
  | none =>
    have hf := on_n hf
    cases hf
  | some a2 =>
    have hf := on_s hf
    refine W.eq (g2 := F0 m 49 ls [.ref a2]) rfl ?_
    refine lv_iload_n hx hb dX8_seeLeader_49 rfl (lv_at hl 1 rfl) ?_
    refine lv_iload_n hx hb dX8_seeLeader_50 rfl (lv_at hl 2 rfl) ?_
    refine lv_iconst (v := (1 : Int32)) hx hb dX8_seeLeader_51 (by decide) ?_
    refine lv_iadd hx hb dX8_seeLeader_52 ?_
    obtain ⟨h3, e3, hf⟩ := ob hf
    refine r_iast C hw e3 dX8_seeLeader_53 (fun H locs hw => ?_)
    obtain ⟨rfl, rfl⟩ := sp hf
    exact r_vret C hw rfl (by omega) (by omega) dX8_seeLeader_54
set_option maxRecDepth 100000 in
set_option maxHeartbeats 4000000 in
theorem bX8_seeLeader {D : va_G} {cy : Nat → ClassId} {s0 : Nat} {p : Program} {l : Launch} {e : Env} {s : State} {m : MethodId} {args : Array Value} {below : List Frame} {meth : Method} {c : Code} (C : CX D cy s0 p s m args meth c cX8_seeLeader 3 RX8 none) (hn : meth.name = "seeLeader") : ∀ (x0 : Nat) (x1 : Int32) (x2 : Int32) (h : Hp) (r : Unit × Hp), fX8_seeLeader x0 x1 x2 h = some r → pX8_seeLeader D cy s0 p l e s m args below meth c r x0 x1 x2 h := by
  intro x0 x1 x2 h ⟨rv, rh⟩ hf H locs ls cells slots hc hs hw hl
  unfold fX8_seeLeader at hf
  have hx := C.1
  have hb := C.2.1
  refine lv_iload_n hx hb dX8_seeLeader_0 rfl (lv_at hl 1 rfl) ?_
  refine lv_if_lt (tgt := 13) hx hb dX8_seeLeader_1 (by decide) (fun c1 => ?_) (fun c1 => ?_)
  · have hf := ip hf c1
    obtain ⟨rfl, rfl⟩ := sp hf
    exact r_vret C hw rfl (by omega) (by omega) dX8_seeLeader_13
  · have hf := ie hf c1
    refine lv_iload_n hx hb dX8_seeLeader_4 rfl (lv_at hl 1 rfl) ?_
    refine lv_aload_n hx hb dX8_seeLeader_5 rfl (lv_at hl 0 rfl) ?_
    obtain ⟨z2, e2, hf⟩ := ob hf
    refine r_gR C hw e2 ck8 rfl (by decide) w58 dX8_seeLeader_6 ?_
    cases z2 with
    | none =>
      have hf := on_n hf
      cases hf
    | some a3 =>
      have hf := on_s hf
      refine W.eq (g2 := F0 m 9 ls [.ref a3, .int x1]) rfl ?_
      obtain ⟨z4, e4, hf⟩ := ob hf
      refine r_alen C hw e4 (by decide) rfl dX8_seeLeader_9 ?_
      refine lv_icmp_lt (tgt := 14) hx hb dX8_seeLeader_10 (by decide) (fun c5 => ?_) (fun c5 => ?_)
      · have hf := ip hf c5
        refine lv_aload_n hx hb dX8_seeLeader_14 rfl (lv_at hl 0 rfl) ?_
        obtain ⟨z6, e6, hf⟩ := ob hf
        refine r_gR C hw e6 ck8 rfl (by decide) w58 dX8_seeLeader_15 ?_
        cases z6 with
        | none =>
          have hf := on_n hf
          cases hf
        | some a7 =>
          have hf := on_s hf
          refine W.eq (g2 := F0 m 18 ls [.ref a7]) rfl ?_
          refine lv_iload_n hx hb dX8_seeLeader_18 rfl (lv_at hl 1 rfl) ?_
          obtain ⟨z8, e8, hf⟩ := ob hf
          refine r_iald C hw e8 dX8_seeLeader_19 ?_
          refine lv_if_eq (tgt := 45) hx hb dX8_seeLeader_20 (by decide) (fun c9 => ?_) (fun c9 => ?_)
          · have hf := ip hf c9
            exact bX8_seeLeader_45 C hn _ _ _ _ _ hf _ _ _ _ _ (by omega) (by omega) hw (lv_sub hl [0, 1, 2] rfl)
          · have hf := ie hf c9
            refine lv_aload_n hx hb dX8_seeLeader_23 rfl (lv_at hl 0 rfl) ?_
            obtain ⟨z10, e10, hf⟩ := ob hf
            refine r_gR C hw e10 ck8 rfl (by decide) w58 dX8_seeLeader_24 ?_
            cases z10 with
            | none =>
              have hf := on_n hf
              cases hf
            | some a11 =>
              have hf := on_s hf
              refine W.eq (g2 := F0 m 27 ls [.ref a11]) rfl ?_
              refine lv_iload_n hx hb dX8_seeLeader_27 rfl (lv_at hl 1 rfl) ?_
              obtain ⟨z12, e12, hf⟩ := ob hf
              refine r_iald C hw e12 dX8_seeLeader_28 ?_
              refine lv_iload_n hx hb dX8_seeLeader_29 rfl (lv_at hl 2 rfl) ?_
              refine lv_iconst (v := (1 : Int32)) hx hb dX8_seeLeader_30 (by decide) ?_
              refine lv_iadd hx hb dX8_seeLeader_31 ?_
              refine lv_icmp_eq (tgt := 45) hx hb dX8_seeLeader_32 (by decide) (fun c13 => ?_) (fun c13 => ?_)
              · have hf := ip hf c13
                exact bX8_seeLeader_45 C hn _ _ _ _ _ hf _ _ _ _ _ (by omega) (by omega) hw (lv_sub hl [0, 1, 2] rfl)
              · have hf := ie hf c13
                refine lv_aload_n hx hb dX8_seeLeader_35 rfl (lv_at hl 0 rfl) ?_
                refine lv_dup hx hb dX8_seeLeader_36 rfl ?_
                obtain ⟨z14, e14, hf⟩ := ob hf
                refine r_gI C hw e14 ck8 rfl (by decide) w60 dX8_seeLeader_37 ?_
                refine lv_iconst (v := (1 : Int32)) hx hb dX8_seeLeader_40 (by decide) ?_
                refine lv_iadd hx hb dX8_seeLeader_41 ?_
                obtain ⟨h15, e15, hf⟩ := ob hf
                refine r_pI C hw e15 ck8 rfl (by decide) rfl w60 (Or.inl rfl) dX8_seeLeader_42 (fun H locs hw => ?_)
                exact bX8_seeLeader_45 C hn _ _ _ _ _ hf _ _ _ _ _ (by omega) (by omega) hw (lv_sub hl [0, 1, 2] rfl)
      · have hf := ie hf c5
        obtain ⟨rfl, rfl⟩ := sp hf
        exact r_vret C hw rfl (by omega) (by omega) dX8_seeLeader_13
theorem kXX8_seeLeader : MK yX8_seeLeader cX8_seeLeader 3 none 2 := ⟨w493, w3, by decide +kernel⟩
theorem mX8_seeLeader {D : va_G} {cy : Nat → ClassId} {s0 : Nat} {l : Launch} {x0 : Nat} {x1 : Int32} {x2 : Int32} {h : Hp} {v : Unit} {h1 : Hp} (hf : fX8_seeLeader x0 x1 x2 h = some (v, h1)) : MT D cy s0 l yX8_seeLeader cX8_seeLeader 3 none rX8_seeLeader [.ref x0, .int x1, .int x2] h none h1 := by
  refine MT.of (by decide +kernel) (Nat.le_of_ble_eq_true rfl) ?_
  intro p e s m below meth c H locs ls C hn hw hl
  exact bX8_seeLeader C hn _ _ _ _ _ hf _ _ _ _ _ (Nat.le_of_ble_eq_true rfl) (Nat.le_of_ble_eq_true rfl) hw hl
abbrev rX5_lengthenLog : Room := { frames := 2, cells := 1, slots := 2, locals := 46 }
abbrev pX5_lengthenLog (D : va_G) (cy : Nat → ClassId) (s0 : Nat) (p : Program) (l : Launch) (e : Env) (s : State) (m : MethodId) (args : Array Value) (below : List Frame) (meth : Method) (c : Code) (r : Int32 × Hp) (x0 : Nat) (x1 : Nat) (h : Hp) : Prop := ∀ (H : Heap) (locs : List Loc) (ls : Array Slot) (cells slots : Nat), cells + (1) ≤ 1 → slots + (2) ≤ 2 → WS D cy s0 s h H locs → lv_has ls 2 [(0, .ref x0), (1, .ref x1)] → W p l e rX5_lengthenLog s m args below meth c H locs cells slots (MQ below (QQ D cy s0 (some (.int r.1)) r.2) args s 1 2 (fun q => s0 ≤ q)) (F0 m 0 ls [])
set_option maxRecDepth 100000 in
set_option maxHeartbeats 4000000 in
theorem bX5_lengthenLog {D : va_G} {cy : Nat → ClassId} {s0 : Nat} {p : Program} {l : Launch} {e : Env} {s : State} {m : MethodId} {args : Array Value} {below : List Frame} {meth : Method} {c : Code} (C : CX D cy s0 p s m args meth c cX5_lengthenLog 2 RX5 (some .boolean)) (hn : meth.name = "lengthenLog") : ∀ (x0 : Nat) (x1 : Nat) (h : Hp) (r : Int32 × Hp), fX5_lengthenLog x0 x1 h = some r → pX5_lengthenLog D cy s0 p l e s m args below meth c r x0 x1 h := by
  intro x0 x1 h ⟨rv, rh⟩ hf H locs ls cells slots hc hs hw hl
  unfold fX5_lengthenLog at hf
  have hx := C.1
  have hb := C.2.1
  refine lv_aload_n hx hb dX5_lengthenLog_0 rfl (lv_at hl 0 rfl) ?_
  refine lv_aload_n hx hb dX5_lengthenLog_1 rfl (lv_at hl 0 rfl) ?_
  obtain ⟨z1, e1, hf⟩ := ob hf
  refine r_gR C hw e1 ck5 rfl (by decide) w189 dX5_lengthenLog_2 ?_
  cases z1 with
  | none =>
    have hf := on_n hf
    cases hf
  | some a2 =>
    have hf := on_s hf
    refine W.eq (g2 := F0 m 5 ls [.ref a2, .ref x0]) rfl ?_
    refine lv_aload_n hx hb dX5_lengthenLog_5 rfl (lv_at hl 0 rfl) ?_
    obtain ⟨z3, e3, hf⟩ := ob hf
    refine r_gR C hw e3 ck5 rfl (by decide) w189 dX5_lengthenLog_6 ?_
    cases z3 with
    | none =>
      have hf := on_n hf
      cases hf
    | some a4 =>
      have hf := on_s hf
      refine W.eq (g2 := F0 m 9 ls [.ref a4, .ref a2, .ref x0]) rfl ?_
      obtain ⟨z5, e5, hf⟩ := ob hf
      refine r_gI C hw e5 ck1 rfl (by decide) w166 dX5_lengthenLog_9 ?_
      refine lv_iconst (v := (1 : Int32)) hx hb dX5_lengthenLog_12 (by decide) ?_
      refine lv_iadd hx hb dX5_lengthenLog_13 ?_
      obtain ⟨h6, e6, hf⟩ := ob hf
      refine r_newN C hw e6 ck2 w533 (by show _ + 1 ≤ 1; omega) (by show _ + 2 ≤ 2; omega) dX5_lengthenLog_14 (fun H hw => ?_)
      refine lv_dup hx hb dX5_lengthenLog_17 rfl ?_
      refine lv_aload_n hx hb dX5_lengthenLog_18 rfl (lv_at hl 0 rfl) ?_
      obtain ⟨z7, e7, hf⟩ := ob hf
      refine r_gR C hw e7 ck5 rfl (by decide) w189 dX5_lengthenLog_19 ?_
      cases z7 with
      | none =>
        have hf := on_n hf
        cases hf
      | some a8 =>
        have hf := on_s hf
        refine W.eq (g2 := F0 m 22 ls [.ref a8, .ref (hZ h), .ref (hZ h), .int (z5 + (1 : Int32)), .ref a2, .ref x0]) rfl ?_
        obtain ⟨z9, e9, hf⟩ := ob hf
        refine r_gI C hw e9 ck1 rfl (by decide) w162 dX5_lengthenLog_22 ?_
        refine lv_aload_n hx hb dX5_lengthenLog_25 rfl (lv_at hl 1 rfl) ?_
        obtain ⟨z10, h10, e10, hf⟩ := ob2 hf
        refine r_callI C hw (mX2_init e10) kXX2_init rfl w535 w536 ⟨Nat.le_of_ble_eq_true rfl, Nat.le_of_ble_eq_true rfl⟩ rfl hl.1 (rest := [.ref (hZ h), .int (z5 + (1 : Int32)), .ref a2, .ref x0]) rfl (Nat.le_of_ble_eq_true rfl) dX5_lengthenLog_26 (mc := 0) (ms := 0) rfl rfl ⟨by show _ + 0 ≤ 1; omega, by show _ + 0 ≤ 2; omega⟩ (fun H locs hw => ?_)
        refine W.eq (g2 := F0 m 29 ls [.ref (hZ h), .int (z5 + (1 : Int32)), .ref a2, .ref x0]) rfl ?_
        obtain ⟨kb11, hf⟩ := ig hf
        obtain ⟨z11, h11, e11, hf⟩ := ob2 hf
        refine r_callV C hw (mX1_recordEntry e11) kXX1_recordEntry ck1 rfl kb11 w549 w550 w551 ⟨Nat.le_of_ble_eq_true rfl, Nat.le_of_ble_eq_true rfl⟩ rfl hl.1 (rest := [.ref x0]) rfl (Nat.le_of_ble_eq_true rfl) dX5_lengthenLog_29 (mc := 0) (ms := 0) rfl rfl ⟨by show _ + 0 ≤ 1; omega, by show _ + 0 ≤ 2; omega⟩ (fun H locs hw => ?_)
        refine W.eq (g2 := F0 m 32 ls [.int z11, .ref x0]) rfl ?_
        obtain ⟨kb12, hf⟩ := ig hf
        obtain ⟨z12, h12, e12, hf⟩ := ob2 hf
        refine r_callV C hw (mX5_survives e12) kXX5_survives ck5 rfl kb12 w382 w384 v3 ⟨Nat.le_of_ble_eq_true rfl, Nat.le_of_ble_eq_true rfl⟩ rfl hl.1 (rest := []) rfl (Nat.le_of_ble_eq_true rfl) dX5_lengthenLog_32 (mc := 0) (ms := 0) rfl rfl ⟨by show _ + 0 ≤ 1; omega, by show _ + 0 ≤ 2; omega⟩ (fun H locs hw => ?_)
        refine W.eq (g2 := F0 m 35 ls [.int z12]) rfl ?_
        obtain ⟨gz, hf⟩ := ig hf
        obtain ⟨rfl, rfl⟩ := sp hf
        exact r_iret C hw rfl (nz gz) (by omega) (by omega) dX5_lengthenLog_35
theorem kXX5_lengthenLog : MK yX5_lengthenLog cX5_lengthenLog 2 (some .boolean) 1 := ⟨w532, w6, by decide +kernel⟩
theorem mX5_lengthenLog {D : va_G} {cy : Nat → ClassId} {s0 : Nat} {l : Launch} {x0 : Nat} {x1 : Nat} {h : Hp} {v : Int32} {h1 : Hp} (hf : fX5_lengthenLog x0 x1 h = some (v, h1)) : MT D cy s0 l yX5_lengthenLog cX5_lengthenLog 2 (some .boolean) rX5_lengthenLog [.ref x0, .ref x1] h (some (.int v)) h1 := by
  refine MT.of (by decide +kernel) (Nat.le_of_ble_eq_true rfl) ?_
  intro p e s m below meth c H locs ls C hn hw hl
  exact bX5_lengthenLog C hn _ _ _ _ hf _ _ _ _ _ (Nat.le_of_ble_eq_true rfl) (Nat.le_of_ble_eq_true rfl) hw hl
abbrev rX5_sendToAll : Room := { frames := 3, cells := 18, slots := 117, locals := 80 }
abbrev pX5_sendToAll_2 (D : va_G) (cy : Nat → ClassId) (s0 : Nat) (p : Program) (l : Launch) (e : Env) (s : State) (m : MethodId) (args : Array Value) (below : List Frame) (meth : Method) (c : Code) (n : Nat) (r : Unit × Hp) (x0 : Nat) (x1 : Int32) (h : Hp) : Prop := ∀ (H : Heap) (locs : List Loc) (ls : Array Slot) (cells slots : Nat), cells + (2 * n + 2) ≤ 18 → slots + (13 * n + 13) ≤ 117 → WS D cy s0 s h H locs → lv_has ls 2 [(0, .ref x0), (1, .int x1)] → W p l e rX5_sendToAll s m args below meth c H locs cells slots (MQ below (QQ D cy s0 none r.2) args s 18 117 (fun q => s0 ≤ q)) (F0 m 2 ls [])
abbrev pX5_sendToAll (D : va_G) (cy : Nat → ClassId) (s0 : Nat) (p : Program) (l : Launch) (e : Env) (s : State) (m : MethodId) (args : Array Value) (below : List Frame) (meth : Method) (c : Code) (r : Unit × Hp) (x0 : Nat) (h : Hp) : Prop := ∀ (H : Heap) (locs : List Loc) (ls : Array Slot) (cells slots : Nat), cells + (18) ≤ 18 → slots + (117) ≤ 117 → WS D cy s0 s h H locs → lv_has ls 2 [(0, .ref x0)] → W p l e rX5_sendToAll s m args below meth c H locs cells slots (MQ below (QQ D cy s0 none r.2) args s 18 117 (fun q => s0 ≤ q)) (F0 m 0 ls [])
set_option maxRecDepth 100000 in
set_option maxHeartbeats 4000000 in
theorem bX5_sendToAll_2_body {D : va_G} {cy : Nat → ClassId} {s0 : Nat} {p : Program} {l : Launch} {e : Env} {s : State} {m : MethodId} {args : Array Value} {below : List Frame} {meth : Method} {c : Code} (C : CX D cy s0 p s m args meth c cX5_sendToAll 2 RX5 none) (hn : meth.name = "sendToAll") (n : Nat) {k2 : Nat → Int32 → Hp → Option (Unit × Hp)} (hk2 : ∀ (x0 : Nat) (x1 : Int32) (h : Hp) (r : Unit × Hp), k2 x0 x1 h = some r → pX5_sendToAll_2 D cy s0 p l e s m args below meth c n r x0 x1 h) : ∀ (x0 : Nat) (x1 : Int32) (h : Hp) (r : Unit × Hp), fX5_sendToAll_2_body k2 x0 x1 h = some r → pX5_sendToAll_2 D cy s0 p l e s m args below meth c (n + 1) r x0 x1 h := by
  intro x0 x1 h ⟨rv, rh⟩ hf H locs ls cells slots hc hs hw hl
  unfold fX5_sendToAll_2_body at hf
  have hx := C.1
  have hb := C.2.1
  refine lv_iload_n hx hb dX5_sendToAll_2 rfl (lv_at hl 1 rfl) ?_
  refine lv_iconst (v := (5 : Int32)) hx hb dX5_sendToAll_3 (by decide) ?_
  refine lv_icmp_ge (tgt := 26) hx hb dX5_sendToAll_4 (by decide) (fun c1 => ?_) (fun c1 => ?_)
  · have hf := ip hf c1
    obtain ⟨rfl, rfl⟩ := sp hf
    exact r_vret C hw rfl (by omega) (by omega) dX5_sendToAll_26
  · have hf := ie hf c1
    refine lv_iload_n hx hb dX5_sendToAll_7 rfl (lv_at hl 1 rfl) ?_
    refine lv_aload_n hx hb dX5_sendToAll_8 rfl (lv_at hl 0 rfl) ?_
    obtain ⟨z2, e2, hf⟩ := ob hf
    refine r_gI C hw e2 ck5 rfl (by decide) w201 dX5_sendToAll_9 ?_
    refine lv_icmp_eq (tgt := 20) hx hb dX5_sendToAll_12 (by decide) (fun c3 => ?_) (fun c3 => ?_)
    · have hf := ip hf c3
      refine lv_iinc (v := (x1 + (1 : Int32))) (lv' := [(1, .int (x1 + (1 : Int32))), (0, .ref x0)]) hx hb dX5_sendToAll_20 hl (k := 1) rfl rfl (by decide) rfl (fun ls hl => ?_)
      refine lv_goto (tgt := 2) hx hb dX5_sendToAll_23 (by decide) ?_
      exact hk2 _ _ _ _ hf _ _ _ _ _ (by omega) (by omega) hw (lv_sub hl [1, 0] rfl)
    · have hf := ie hf c3
      refine lv_aload_n hx hb dX5_sendToAll_15 rfl (lv_at hl 0 rfl) ?_
      refine lv_iload_n hx hb dX5_sendToAll_16 rfl (lv_at hl 1 rfl) ?_
      obtain ⟨kb4, hf⟩ := ig hf
      obtain ⟨z4, h4, e4, hf⟩ := ob2 hf
      refine r_callV C hw (mX5_sendTo e4) kXX5_sendTo ck5 rfl kb4 w557 w559 v10 ⟨Nat.le_of_ble_eq_true rfl, Nat.le_of_ble_eq_true rfl⟩ rfl hl.1 (rest := []) rfl (Nat.le_of_ble_eq_true rfl) dX5_sendToAll_17 (mc := 2) (ms := 13) rfl rfl ⟨by show _ + 2 ≤ 18; omega, by show _ + 13 ≤ 117; omega⟩ (fun H locs hw => ?_)
      refine W.eq (g2 := F0 m 20 ls []) rfl ?_
      refine lv_iinc (v := (x1 + (1 : Int32))) (lv' := [(1, .int (x1 + (1 : Int32))), (0, .ref x0)]) hx hb dX5_sendToAll_20 hl (k := 1) rfl rfl (by decide) rfl (fun ls hl => ?_)
      refine lv_goto (tgt := 2) hx hb dX5_sendToAll_23 (by decide) ?_
      exact hk2 _ _ _ _ hf _ _ _ _ _ (by omega) (by omega) hw (lv_sub hl [1, 0] rfl)
set_option maxRecDepth 100000 in
set_option maxHeartbeats 4000000 in
theorem bX5_sendToAll_2 {D : va_G} {cy : Nat → ClassId} {s0 : Nat} {p : Program} {l : Launch} {e : Env} {s : State} {m : MethodId} {args : Array Value} {below : List Frame} {meth : Method} {c : Code} (C : CX D cy s0 p s m args meth c cX5_sendToAll 2 RX5 none) (hn : meth.name = "sendToAll") : ∀ (n : Nat) (x0 : Nat) (x1 : Int32) (h : Hp) (r : Unit × Hp), fX5_sendToAll_2 n x0 x1 h = some r → pX5_sendToAll_2 D cy s0 p l e s m args below meth c n r x0 x1 h := by
  intro n
  induction n with
  | zero => intro x0 x1 h r hf; exact absurd hf (fun q => by cases q)
  | succ n ih => exact bX5_sendToAll_2_body C hn n ih
set_option maxRecDepth 100000 in
set_option maxHeartbeats 4000000 in
theorem bX5_sendToAll {D : va_G} {cy : Nat → ClassId} {s0 : Nat} {p : Program} {l : Launch} {e : Env} {s : State} {m : MethodId} {args : Array Value} {below : List Frame} {meth : Method} {c : Code} (C : CX D cy s0 p s m args meth c cX5_sendToAll 2 RX5 none) (hn : meth.name = "sendToAll") : ∀ (x0 : Nat) (h : Hp) (r : Unit × Hp), fX5_sendToAll x0 h = some r → pX5_sendToAll D cy s0 p l e s m args below meth c r x0 h := by
  intro x0 h ⟨rv, rh⟩ hf H locs ls cells slots hc hs hw hl
  unfold fX5_sendToAll at hf
  have hx := C.1
  have hb := C.2.1
  refine lv_iconst (v := (0 : Int32)) hx hb dX5_sendToAll_0 (by decide) ?_
  refine lv_istore_n (lv' := [(1, .int (0 : Int32)), (0, .ref x0)]) hx hb dX5_sendToAll_1 rfl hl (by decide) rfl (fun ls hl => ?_)
  exact bX5_sendToAll_2 C hn 8 _ _ _ _ hf _ _ _ _ _ (by omega) (by omega) hw (lv_sub hl [1, 0] rfl)
theorem kXX5_sendToAll : MK yX5_sendToAll cX5_sendToAll 2 none 0 := ⟨w556, w6, by decide +kernel⟩
theorem mX5_sendToAll {D : va_G} {cy : Nat → ClassId} {s0 : Nat} {l : Launch} {x0 : Nat} {h : Hp} {v : Unit} {h1 : Hp} (hf : fX5_sendToAll x0 h = some (v, h1)) : MT D cy s0 l yX5_sendToAll cX5_sendToAll 2 none rX5_sendToAll [.ref x0] h none h1 := by
  refine MT.of (by decide +kernel) (Nat.le_of_ble_eq_true rfl) ?_
  intro p e s m below meth c H locs ls C hn hw hl
  exact bX5_sendToAll C hn _ _ _ hf _ _ _ _ _ (Nat.le_of_ble_eq_true rfl) (Nat.le_of_ble_eq_true rfl) hw hl
abbrev rX5_lead : Room := { frames := 4, cells := 20, slots := 126, locals := 101 }
abbrev pX5_lead_93 (D : va_G) (cy : Nat → ClassId) (s0 : Nat) (p : Program) (l : Launch) (e : Env) (s : State) (m : MethodId) (args : Array Value) (below : List Frame) (meth : Method) (c : Code) (r : Unit × Hp) (x0 : Nat) (h : Hp) : Prop := ∀ (H : Heap) (locs : List Loc) (ls : Array Slot) (cells slots : Nat), cells + (18) ≤ 20 → slots + (117) ≤ 126 → WS D cy s0 s h H locs → lv_has ls 2 [(0, .ref x0)] → W p l e rX5_lead s m args below meth c H locs cells slots (MQ below (QQ D cy s0 none r.2) args s 20 126 (fun q => s0 ≤ q)) (F0 m 93 ls [])
abbrev pX5_lead_25 (D : va_G) (cy : Nat → ClassId) (s0 : Nat) (p : Program) (l : Launch) (e : Env) (s : State) (m : MethodId) (args : Array Value) (below : List Frame) (meth : Method) (c : Code) (r : Unit × Hp) (x0 : Nat) (x1 : Int32) (h : Hp) : Prop := ∀ (H : Heap) (locs : List Loc) (ls : Array Slot) (cells slots : Nat), cells + (20) ≤ 20 → slots + (126) ≤ 126 → WS D cy s0 s h H locs → lv_has ls 2 [(0, .ref x0), (1, .int x1)] → W p l e rX5_lead s m args below meth c H locs cells slots (MQ below (QQ D cy s0 none r.2) args s 20 126 (fun q => s0 ≤ q)) (F0 m 25 ls [])
abbrev pX5_lead (D : va_G) (cy : Nat → ClassId) (s0 : Nat) (p : Program) (l : Launch) (e : Env) (s : State) (m : MethodId) (args : Array Value) (below : List Frame) (meth : Method) (c : Code) (r : Unit × Hp) (x0 : Nat) (h : Hp) : Prop := ∀ (H : Heap) (locs : List Loc) (ls : Array Slot) (cells slots : Nat), cells + (20) ≤ 20 → slots + (126) ≤ 126 → WS D cy s0 s h H locs → lv_has ls 2 [(0, .ref x0)] → W p l e rX5_lead s m args below meth c H locs cells slots (MQ below (QQ D cy s0 none r.2) args s 20 126 (fun q => s0 ≤ q)) (F0 m 0 ls [])
set_option maxRecDepth 100000 in
set_option maxHeartbeats 4000000 in
theorem bX5_lead_93 {D : va_G} {cy : Nat → ClassId} {s0 : Nat} {p : Program} {l : Launch} {e : Env} {s : State} {m : MethodId} {args : Array Value} {below : List Frame} {meth : Method} {c : Code} (C : CX D cy s0 p s m args meth c cX5_lead 2 RX5 none) (hn : meth.name = "lead") : ∀ (x0 : Nat) (h : Hp) (r : Unit × Hp), fX5_lead_93 x0 h = some r → pX5_lead_93 D cy s0 p l e s m args below meth c r x0 h := by
  intro x0 h ⟨rv, rh⟩ hf H locs ls cells slots hc hs hw hl
  unfold fX5_lead_93 at hf
  have hx := C.1
  have hb := C.2.1
  refine lv_aload_n hx hb dX5_lead_93 rfl (lv_at hl 0 rfl) ?_
  obtain ⟨kb1, hf⟩ := ig hf
  obtain ⟨z1, h1, e1, hf⟩ := ob2 hf
  refine r_callV C hw (mX5_sendToAll e1) kXX5_sendToAll ck5 rfl kb1 w553 w554 w555 ⟨Nat.le_of_ble_eq_true rfl, Nat.le_of_ble_eq_true rfl⟩ rfl hl.1 (rest := []) rfl (Nat.le_of_ble_eq_true rfl) dX5_lead_94 (mc := 18) (ms := 117) rfl rfl ⟨by show _ + 18 ≤ 20; omega, by show _ + 117 ≤ 126; omega⟩ (fun H locs hw => ?_)
  refine W.eq (g2 := F0 m 97 ls []) rfl ?_
  obtain ⟨rfl, rfl⟩ := sp hf
  exact r_vret C hw rfl (by omega) (by omega) dX5_lead_97
set_option maxRecDepth 100000 in
set_option maxHeartbeats 4000000 in
theorem bX5_lead_25_body {D : va_G} {cy : Nat → ClassId} {s0 : Nat} {p : Program} {l : Launch} {e : Env} {s : State} {m : MethodId} {args : Array Value} {below : List Frame} {meth : Method} {c : Code} (C : CX D cy s0 p s m args meth c cX5_lead 2 RX5 none) (hn : meth.name = "lead") {k25 : Nat → Int32 → Hp → Option (Unit × Hp)} (hk25 : ∀ (x0 : Nat) (x1 : Int32) (h : Hp) (r : Unit × Hp), k25 x0 x1 h = some r → pX5_lead_25 D cy s0 p l e s m args below meth c r x0 x1 h) : ∀ (x0 : Nat) (x1 : Int32) (h : Hp) (r : Unit × Hp), fX5_lead_25_body k25 x0 x1 h = some r → pX5_lead_25 D cy s0 p l e s m args below meth c r x0 x1 h := by
  intro x0 x1 h ⟨rv, rh⟩ hf H locs ls cells slots hc hs hw hl
  unfold fX5_lead_25_body at hf
  have hx := C.1
  have hb := C.2.1
  refine lv_iload_n hx hb dX5_lead_25 rfl (lv_at hl 1 rfl) ?_
  refine lv_iconst (v := (5 : Int32)) hx hb dX5_lead_26 (by decide) ?_
  refine lv_icmp_ge (tgt := 58) hx hb dX5_lead_27 (by decide) (fun c1 => ?_) (fun c1 => ?_)
  · have hf := ip hf c1
    refine lv_aload_n hx hb dX5_lead_58 rfl (lv_at hl 0 rfl) ?_
    obtain ⟨z2, e2, hf⟩ := ob hf
    refine r_gR C hw e2 ck5 rfl (by decide) w189 dX5_lead_59 ?_
    cases z2 with
    | none =>
      have hf := on_n hf
      cases hf
    | some a3 =>
      have hf := on_s hf
      refine W.eq (g2 := F0 m 62 ls [.ref a3]) rfl ?_
      obtain ⟨z4, e4, hf⟩ := ob hf
      refine r_gI C hw e4 ck1 rfl (by decide) w166 dX5_lead_62 ?_
      refine lv_sipush (v := (1200 : Int32)) hx hb dX5_lead_65 (by decide) ?_
      refine lv_icmp_ge (tgt := 93) hx hb dX5_lead_68 (by decide) (fun c5 => ?_) (fun c5 => ?_)
      · have hf := ip hf c5
        exact bX5_lead_93 C hn _ _ _ hf _ _ _ _ _ (by omega) (by omega) hw (lv_sub hl [0] rfl)
      · have hf := ie hf c5
        refine lv_aload_n hx hb dX5_lead_71 rfl (lv_at hl 0 rfl) ?_
        obtain ⟨h6, e6, hf⟩ := ob hf
        refine r_newN C hw e6 ck0 w494 (by show _ + 1 ≤ 20; omega) (by show _ + 7 ≤ 126; omega) dX5_lead_72 (fun H hw => ?_)
        refine lv_dup hx hb dX5_lead_75 rfl ?_
        refine lv_iconst (v := (0 : Int32)) hx hb dX5_lead_76 (by decide) ?_
        refine lv_iconst (v := (0 : Int32)) hx hb dX5_lead_77 (by decide) ?_
        refine lv_iconst (v := (0 : Int32)) hx hb dX5_lead_78 (by decide) ?_
        refine lv_iconst (v := (0 : Int32)) hx hb dX5_lead_79 (by decide) ?_
        refine lv_iconst (v := (0 : Int32)) hx hb dX5_lead_80 (by decide) ?_
        refine lv_iconst (v := (0 : Int32)) hx hb dX5_lead_81 (by decide) ?_
        refine lv_iconst (v := (0 : Int32)) hx hb dX5_lead_82 (by decide) ?_
        obtain ⟨z7, h7, e7, hf⟩ := ob2 hf
        refine r_callI C hw (mX0_init e7) kXX0_init rfl w496 w497 ⟨Nat.le_of_ble_eq_true rfl, Nat.le_of_ble_eq_true rfl⟩ rfl hl.1 (rest := [.ref (hZ h), .ref x0]) rfl (Nat.le_of_ble_eq_true rfl) dX5_lead_83 (mc := 0) (ms := 0) rfl rfl ⟨by show _ + 0 ≤ 20; omega, by show _ + 0 ≤ 126; omega⟩ (fun H locs hw => ?_)
        refine W.eq (g2 := F0 m 86 ls [.ref (hZ h), .ref x0]) rfl ?_
        obtain ⟨kb8, hf⟩ := ig hf
        obtain ⟨z8, h8, e8, hf⟩ := ob2 hf
        refine r_callV C hw (mX5_lengthenLog e8) kXX5_lengthenLog ck5 rfl kb8 w529 w530 w531 ⟨Nat.le_of_ble_eq_true rfl, Nat.le_of_ble_eq_true rfl⟩ rfl hl.1 (rest := []) rfl (Nat.le_of_ble_eq_true rfl) dX5_lead_86 (mc := 1) (ms := 2) rfl rfl ⟨by show _ + 1 ≤ 20; omega, by show _ + 2 ≤ 126; omega⟩ (fun H locs hw => ?_)
        refine W.eq (g2 := F0 m 89 ls [.int z8]) rfl ?_
        refine lv_if_ne (tgt := 93) hx hb dX5_lead_89 (by decide) (fun c9 => ?_) (fun c9 => ?_)
        · have hf := ie hf c9
          exact bX5_lead_93 C hn _ _ _ hf _ _ _ _ _ (by omega) (by omega) hw (lv_sub hl [0] rfl)
        · have hf := ip hf c9
          obtain ⟨rfl, rfl⟩ := sp hf
          exact r_vret C hw rfl (by omega) (by omega) dX5_lead_92
  · have hf := ie hf c1
    refine lv_aload_n hx hb dX5_lead_30 rfl (lv_at hl 0 rfl) ?_
    obtain ⟨z10, e10, hf⟩ := ob hf
    refine r_gR C hw e10 ck5 rfl (by decide) w207 dX5_lead_31 ?_
    cases z10 with
    | none =>
      have hf := on_n hf
      cases hf
    | some a11 =>
      have hf := on_s hf
      refine W.eq (g2 := F0 m 34 ls [.ref a11]) rfl ?_
      refine lv_iload_n hx hb dX5_lead_34 rfl (lv_at hl 1 rfl) ?_
      refine lv_aload_n hx hb dX5_lead_35 rfl (lv_at hl 0 rfl) ?_
      obtain ⟨z12, e12, hf⟩ := ob hf
      refine r_gR C hw e12 ck5 rfl (by decide) w189 dX5_lead_36 ?_
      cases z12 with
      | none =>
        have hf := on_n hf
        cases hf
      | some a13 =>
        have hf := on_s hf
        refine W.eq (g2 := F0 m 39 ls [.ref a13, .int x1, .ref a11]) rfl ?_
        obtain ⟨z14, e14, hf⟩ := ob hf
        refine r_gI C hw e14 ck1 rfl (by decide) w166 dX5_lead_39 ?_
        refine lv_iconst (v := (1 : Int32)) hx hb dX5_lead_42 (by decide) ?_
        refine lv_iadd hx hb dX5_lead_43 ?_
        obtain ⟨h15, e15, hf⟩ := ob hf
        refine r_iast C hw e15 dX5_lead_44 (fun H locs hw => ?_)
        refine lv_aload_n hx hb dX5_lead_45 rfl (lv_at hl 0 rfl) ?_
        obtain ⟨z16, e16, hf⟩ := ob hf
        refine r_gR C hw e16 ck5 rfl (by decide) w208 dX5_lead_46 ?_
        cases z16 with
        | none =>
          have hf := on_n hf
          cases hf
        | some a17 =>
          have hf := on_s hf
          refine W.eq (g2 := F0 m 49 ls [.ref a17]) rfl ?_
          refine lv_iload_n hx hb dX5_lead_49 rfl (lv_at hl 1 rfl) ?_
          refine lv_iconst (v := (0 : Int32)) hx hb dX5_lead_50 (by decide) ?_
          obtain ⟨h18, e18, hf⟩ := ob hf
          refine r_iast C hw e18 dX5_lead_51 (fun H locs hw => ?_)
          refine lv_iinc (v := (x1 + (1 : Int32))) (lv' := [(1, .int (x1 + (1 : Int32))), (0, .ref x0)]) hx hb dX5_lead_52 hl (k := 1) rfl rfl (by decide) rfl (fun ls hl => ?_)
          refine lv_goto (tgt := 25) hx hb dX5_lead_55 (by decide) ?_
          exact hk25 _ _ _ _ hf _ _ _ _ _ (by omega) (by omega) hw (lv_sub hl [1, 0] rfl)
set_option maxRecDepth 100000 in
set_option maxHeartbeats 4000000 in
theorem bX5_lead_25 {D : va_G} {cy : Nat → ClassId} {s0 : Nat} {p : Program} {l : Launch} {e : Env} {s : State} {m : MethodId} {args : Array Value} {below : List Frame} {meth : Method} {c : Code} (C : CX D cy s0 p s m args meth c cX5_lead 2 RX5 none) (hn : meth.name = "lead") : ∀ (n : Nat) (x0 : Nat) (x1 : Int32) (h : Hp) (r : Unit × Hp), fX5_lead_25 n x0 x1 h = some r → pX5_lead_25 D cy s0 p l e s m args below meth c r x0 x1 h := by
  intro n
  induction n with
  | zero => intro x0 x1 h r hf; exact absurd hf (fun q => by cases q)
  | succ n ih => exact bX5_lead_25_body C hn ih
set_option maxRecDepth 100000 in
set_option maxHeartbeats 4000000 in
theorem bX5_lead {D : va_G} {cy : Nat → ClassId} {s0 : Nat} {p : Program} {l : Launch} {e : Env} {s : State} {m : MethodId} {args : Array Value} {below : List Frame} {meth : Method} {c : Code} (C : CX D cy s0 p s m args meth c cX5_lead 2 RX5 none) (hn : meth.name = "lead") : ∀ (x0 : Nat) (h : Hp) (r : Unit × Hp), fX5_lead x0 h = some r → pX5_lead D cy s0 p l e s m args below meth c r x0 h := by
  intro x0 h ⟨rv, rh⟩ hf H locs ls cells slots hc hs hw hl
  unfold fX5_lead at hf
  have hx := C.1
  have hb := C.2.1
  refine lv_aload_n hx hb dX5_lead_0 rfl (lv_at hl 0 rfl) ?_
  refine lv_iconst (v := (2 : Int32)) hx hb dX5_lead_1 (by decide) ?_
  obtain ⟨h1, e1, hf⟩ := ob hf
  refine r_pI C hw e1 ck5 rfl (by decide) rfl w197 (Or.inl rfl) dX5_lead_2 (fun H locs hw => ?_)
  refine lv_aload_n hx hb dX5_lead_5 rfl (lv_at hl 0 rfl) ?_
  obtain ⟨z2, e2, hf⟩ := ob hf
  refine r_gR C hw e2 ck5 rfl (by decide) w203 dX5_lead_6 ?_
  cases z2 with
  | none =>
    have hf := on_n hf
    cases hf
  | some a3 =>
    have hf := on_s hf
    refine W.eq (g2 := F0 m 9 ls [.ref a3]) rfl ?_
    refine lv_aload_n hx hb dX5_lead_9 rfl (lv_at hl 0 rfl) ?_
    obtain ⟨z4, e4, hf⟩ := ob hf
    refine r_gR C hw e4 ck5 rfl (by decide) w189 dX5_lead_10 ?_
    cases z4 with
    | none =>
      have hf := on_n hf
      cases hf
    | some a5 =>
      have hf := on_s hf
      refine W.eq (g2 := F0 m 13 ls [.ref a5, .ref a3]) rfl ?_
      obtain ⟨z6, e6, hf⟩ := ob hf
      refine r_gI C hw e6 ck1 rfl (by decide) w162 dX5_lead_13 ?_
      refine lv_aload_n hx hb dX5_lead_16 rfl (lv_at hl 0 rfl) ?_
      obtain ⟨z7, e7, hf⟩ := ob hf
      refine r_gI C hw e7 ck5 rfl (by decide) w201 dX5_lead_17 ?_
      obtain ⟨kb8, hf⟩ := ig hf
      obtain ⟨z8, h8, e8, hf⟩ := ob2 hf
      refine r_callV C hw (mX8_seeLeader e8) kXX8_seeLeader ck8 rfl kb8 w490 w491 w492 ⟨Nat.le_of_ble_eq_true rfl, Nat.le_of_ble_eq_true rfl⟩ rfl hl.1 (rest := []) rfl (Nat.le_of_ble_eq_true rfl) dX5_lead_20 (mc := 0) (ms := 0) rfl rfl ⟨by show _ + 0 ≤ 20; omega, by show _ + 0 ≤ 126; omega⟩ (fun H locs hw => ?_)
      refine W.eq (g2 := F0 m 23 ls []) rfl ?_
      refine lv_iconst (v := (0 : Int32)) hx hb dX5_lead_23 (by decide) ?_
      refine lv_istore_n (lv' := [(1, .int (0 : Int32)), (0, .ref x0)]) hx hb dX5_lead_24 rfl hl (by decide) rfl (fun ls hl => ?_)
      exact bX5_lead_25 C hn LF _ _ _ _ hf _ _ _ _ _ (by omega) (by omega) hw (lv_sub hl [1, 0] rfl)
theorem kXX5_lead : MK yX5_lead cX5_lead 2 none 0 := ⟨w489, w6, by decide +kernel⟩
theorem mX5_lead {D : va_G} {cy : Nat → ClassId} {s0 : Nat} {l : Launch} {x0 : Nat} {h : Hp} {v : Unit} {h1 : Hp} (hf : fX5_lead x0 h = some (v, h1)) : MT D cy s0 l yX5_lead cX5_lead 2 none rX5_lead [.ref x0] h none h1 := by
  refine MT.of (by decide +kernel) (Nat.le_of_ble_eq_true rfl) ?_
  intro p e s m below meth c H locs ls C hn hw hl
  exact bX5_lead C hn _ _ _ hf _ _ _ _ _ (Nat.le_of_ble_eq_true rfl) (Nat.le_of_ble_eq_true rfl) hw hl
abbrev rX5_handleVote : Room := { frames := 5, cells := 20, slots := 126, locals := 122 }
abbrev pX5_handleVote (D : va_G) (cy : Nat → ClassId) (s0 : Nat) (p : Program) (l : Launch) (e : Env) (s : State) (m : MethodId) (args : Array Value) (below : List Frame) (meth : Method) (c : Code) (r : Unit × Hp) (x0 : Nat) (x1 : Nat) (h : Hp) : Prop := ∀ (H : Heap) (locs : List Loc) (ls : Array Slot) (cells slots : Nat), cells + (20) ≤ 20 → slots + (126) ≤ 126 → WS D cy s0 s h H locs → lv_has ls 2 [(0, .ref x0), (1, .ref x1)] → W p l e rX5_handleVote s m args below meth c H locs cells slots (MQ below (QQ D cy s0 none r.2) args s 20 126 (fun q => s0 ≤ q)) (F0 m 0 ls [])
set_option maxRecDepth 100000 in
set_option maxHeartbeats 4000000 in
theorem bX5_handleVote {D : va_G} {cy : Nat → ClassId} {s0 : Nat} {p : Program} {l : Launch} {e : Env} {s : State} {m : MethodId} {args : Array Value} {below : List Frame} {meth : Method} {c : Code} (C : CX D cy s0 p s m args meth c cX5_handleVote 2 RX5 none) (hn : meth.name = "handleVote") : ∀ (x0 : Nat) (x1 : Nat) (h : Hp) (r : Unit × Hp), fX5_handleVote x0 x1 h = some r → pX5_handleVote D cy s0 p l e s m args below meth c r x0 x1 h := by
  intro x0 x1 h ⟨rv, rh⟩ hf H locs ls cells slots hc hs hw hl
  unfold fX5_handleVote at hf
  have hx := C.1
  have hb := C.2.1
  refine lv_aload_n hx hb dX5_handleVote_0 rfl (lv_at hl 0 rfl) ?_
  obtain ⟨z1, e1, hf⟩ := ob hf
  refine r_gI C hw e1 ck5 rfl (by decide) w197 dX5_handleVote_1 ?_
  refine lv_iconst (v := (1 : Int32)) hx hb dX5_handleVote_4 (by decide) ?_
  refine lv_icmp_ne (tgt := 16) hx hb dX5_handleVote_5 (by decide) (fun c2 => ?_) (fun c2 => ?_)
  · have hf := ie hf c2
    obtain ⟨rfl, rfl⟩ := sp hf
    exact r_vret C hw rfl (by omega) (by omega) dX5_handleVote_16
  · have hf := ip hf c2
    refine lv_aload_n hx hb dX5_handleVote_8 rfl (lv_at hl 1 rfl) ?_
    obtain ⟨z3, e3, hf⟩ := ob hf
    refine r_gI C hw e3 ck4 rfl (by decide) w414 dX5_handleVote_9 ?_
    refine lv_iconst (v := (1 : Int32)) hx hb dX5_handleVote_12 (by decide) ?_
    refine lv_icmp_eq (tgt := 17) hx hb dX5_handleVote_13 (by decide) (fun c4 => ?_) (fun c4 => ?_)
    · have hf := ip hf c4
      refine lv_aload_n hx hb dX5_handleVote_17 rfl (lv_at hl 0 rfl) ?_
      refine lv_dup hx hb dX5_handleVote_18 rfl ?_
      obtain ⟨z5, e5, hf⟩ := ob hf
      refine r_gI C hw e5 ck5 rfl (by decide) w204 dX5_handleVote_19 ?_
      refine lv_iconst (v := (1 : Int32)) hx hb dX5_handleVote_22 (by decide) ?_
      refine lv_aload_n hx hb dX5_handleVote_23 rfl (lv_at hl 1 rfl) ?_
      obtain ⟨z6, e6, hf⟩ := ob hf
      refine r_gI C hw e6 ck4 rfl (by decide) w408 dX5_handleVote_24 ?_
      refine lv_ishl hx hb dX5_handleVote_27 ?_
      refine lv_ior hx hb dX5_handleVote_28 ?_
      obtain ⟨h7, e7, hf⟩ := ob hf
      refine r_pI C hw e7 ck5 rfl (by decide) rfl w204 (Or.inl rfl) dX5_handleVote_29 (fun H locs hw => ?_)
      refine lv_aload_n hx hb dX5_handleVote_32 rfl (lv_at hl 0 rfl) ?_
      obtain ⟨z8, e8, hf⟩ := ob hf
      refine r_gI C hw e8 ck5 rfl (by decide) w204 dX5_handleVote_33 ?_
      obtain ⟨z9, h9, e9, hf⟩ := ob2 hf
      refine r_callS C hw (mJ6_bitCount_0f7a4 e9) kXJ6_bitCount_0f7a4 w480 w481 ⟨Nat.le_of_ble_eq_true rfl, Nat.le_of_ble_eq_true rfl⟩ rfl hl.1 (rest := []) rfl (Nat.le_of_ble_eq_true rfl) dX5_handleVote_36 (mc := 0) (ms := 0) rfl rfl ⟨by show _ + 0 ≤ 20; omega, by show _ + 0 ≤ 126; omega⟩ (fun H locs hw => ?_)
      refine W.eq (g2 := F0 m 39 ls [.int z9]) rfl ?_
      refine lv_iconst (v := (3 : Int32)) hx hb dX5_handleVote_39 (by decide) ?_
      refine lv_icmp_lt (tgt := 47) hx hb dX5_handleVote_40 (by decide) (fun c10 => ?_) (fun c10 => ?_)
      · have hf := ip hf c10
        obtain ⟨rfl, rfl⟩ := sp hf
        exact r_vret C hw rfl (by omega) (by omega) dX5_handleVote_47
      · have hf := ie hf c10
        refine lv_aload_n hx hb dX5_handleVote_43 rfl (lv_at hl 0 rfl) ?_
        obtain ⟨kb11, hf⟩ := ig hf
        obtain ⟨z11, h11, e11, hf⟩ := ob2 hf
        refine r_callV C hw (mX5_lead e11) kXX5_lead ck5 rfl kb11 w486 w488 v9 ⟨Nat.le_of_ble_eq_true rfl, Nat.le_of_ble_eq_true rfl⟩ rfl hl.1 (rest := []) rfl (Nat.le_of_ble_eq_true rfl) dX5_handleVote_44 (mc := 20) (ms := 126) rfl rfl ⟨by show _ + 20 ≤ 20; omega, by show _ + 126 ≤ 126; omega⟩ (fun H locs hw => ?_)
        refine W.eq (g2 := F0 m 47 ls []) rfl ?_
        obtain ⟨rfl, rfl⟩ := sp hf
        exact r_vret C hw rfl (by omega) (by omega) dX5_handleVote_47
    · have hf := ie hf c4
      obtain ⟨rfl, rfl⟩ := sp hf
      exact r_vret C hw rfl (by omega) (by omega) dX5_handleVote_16
theorem kXX5_handleVote : MK yX5_handleVote cX5_handleVote 2 none 1 := ⟨w479, w6, by decide +kernel⟩
theorem mX5_handleVote {D : va_G} {cy : Nat → ClassId} {s0 : Nat} {l : Launch} {x0 : Nat} {x1 : Nat} {h : Hp} {v : Unit} {h1 : Hp} (hf : fX5_handleVote x0 x1 h = some (v, h1)) : MT D cy s0 l yX5_handleVote cX5_handleVote 2 none rX5_handleVote [.ref x0, .ref x1] h none h1 := by
  refine MT.of (by decide +kernel) (Nat.le_of_ble_eq_true rfl) ?_
  intro p e s m below meth c H locs ls C hn hw hl
  exact bX5_handleVote C hn _ _ _ _ hf _ _ _ _ _ (Nat.le_of_ble_eq_true rfl) (Nat.le_of_ble_eq_true rfl) hw hl
abbrev rX7_init : Room := { frames := 1, cells := 8, slots := 857, locals := 24 }
abbrev pX7_init (D : va_G) (cy : Nat → ClassId) (s0 : Nat) (p : Program) (l : Launch) (e : Env) (s : State) (m : MethodId) (args : Array Value) (below : List Frame) (meth : Method) (c : Code) (r : Unit × Hp) (x0 : Nat) (h : Hp) : Prop := ∀ (H : Heap) (locs : List Loc) (ls : Array Slot) (cells slots : Nat), cells + (8) ≤ 8 → slots + (857) ≤ 857 → WS D cy s0 s h H locs → lv_has ls 1 [(0, .ref x0)] → W p l e rX7_init s m args below meth c H locs cells slots (MQ below (QQ D cy s0 none r.2) args s 8 857 (fun q => s0 ≤ q)) (F0 m 0 ls [])
set_option maxRecDepth 100000 in
set_option maxHeartbeats 4000000 in
theorem bX7_init {D : va_G} {cy : Nat → ClassId} {s0 : Nat} {p : Program} {l : Launch} {e : Env} {s : State} {m : MethodId} {args : Array Value} {below : List Frame} {meth : Method} {c : Code} (C : CX D cy s0 p s m args meth c cX7_init 1 RX7 none) (hn : meth.name = "<init>") : ∀ (x0 : Nat) (h : Hp) (r : Unit × Hp), fX7_init x0 h = some r → pX7_init D cy s0 p l e s m args below meth c r x0 h := by
  intro x0 h ⟨rv, rh⟩ hf H locs ls cells slots hc hs hw hl
  unfold fX7_init at hf
  have hx := C.1
  have hb := C.2.1
  refine lv_aload_n hx hb dX7_init_0 rfl (lv_at hl 0 rfl) ?_
  refine W.objInit hx hb C.2.2.2.1 (C.2.2.2.2.1 _ w77) (C.2.2.2.2.1 _ w28) (C.2.2.2.2.1 _ w29) rfl (by rw [C.2.2.1]; exact hl.1) rfl dX7_init_1 (Nat.le_of_ble_eq_true rfl) (Nat.le_of_ble_eq_true rfl) ?_
  refine W.eq (g2 := F0 m 4 ls []) rfl ?_
  refine lv_aload_n hx hb dX7_init_4 rfl (lv_at hl 0 rfl) ?_
  refine lv_iconst (v := (1 : Int32)) hx hb dX7_init_5 (by decide) ?_
  obtain ⟨h1, e1, hf⟩ := ob hf
  refine r_pI C hw e1 ck7 rfl (by decide) rfl w78 (Or.inl rfl) dX7_init_6 (fun H locs hw => ?_)
  refine lv_aload_n hx hb dX7_init_9 rfl (lv_at hl 0 rfl) ?_
  refine lv_sipush (v := (464 : Int32)) hx hb dX7_init_10 (by decide) ?_
  obtain ⟨h2, e2, hf⟩ := ob hf
  refine r_newJ C hw e2 w125 (by show _ + 1 ≤ 8; omega) (by show _ + 464 ≤ 857; omega) (by decide) dX7_init_13 (fun H hw => ?_)
  obtain ⟨h3, e3, hf⟩ := ob hf
  refine r_pR C hw e3 rfl ck7 rfl (by decide) rfl rfl w82 (Or.inr ⟨rfl, hn, rfl⟩) dX7_init_15 (fun H locs hw => ?_)
  refine lv_aload_n hx hb dX7_init_18 rfl (lv_at hl 0 rfl) ?_
  refine lv_bipush (v := (64 : Int32)) hx hb dX7_init_19 (by decide) ?_
  obtain ⟨h4, e4, hf⟩ := ob hf
  refine r_newI C hw e4 w69 (by show _ + 1 ≤ 8; omega) (by show _ + 64 ≤ 857; omega) (by decide) dX7_init_21 (fun H hw => ?_)
  obtain ⟨h5, e5, hf⟩ := ob hf
  refine r_pR C hw e5 rfl ck7 rfl (by decide) rfl rfl w87 (Or.inr ⟨rfl, hn, rfl⟩) dX7_init_23 (fun H locs hw => ?_)
  refine lv_aload_n hx hb dX7_init_26 rfl (lv_at hl 0 rfl) ?_
  refine lv_bipush (v := (64 : Int32)) hx hb dX7_init_27 (by decide) ?_
  obtain ⟨h6, e6, hf⟩ := ob hf
  refine r_newI C hw e6 w69 (by show _ + 1 ≤ 8; omega) (by show _ + 64 ≤ 857; omega) (by decide) dX7_init_29 (fun H hw => ?_)
  obtain ⟨h7, e7, hf⟩ := ob hf
  refine r_pR C hw e7 rfl ck7 rfl (by decide) rfl rfl w88 (Or.inr ⟨rfl, hn, rfl⟩) dX7_init_31 (fun H locs hw => ?_)
  refine lv_aload_n hx hb dX7_init_34 rfl (lv_at hl 0 rfl) ?_
  refine lv_bipush (v := (64 : Int32)) hx hb dX7_init_35 (by decide) ?_
  obtain ⟨h8, e8, hf⟩ := ob hf
  refine r_newI C hw e8 w69 (by show _ + 1 ≤ 8; omega) (by show _ + 64 ≤ 857; omega) (by decide) dX7_init_37 (fun H hw => ?_)
  obtain ⟨h9, e9, hf⟩ := ob hf
  refine r_pR C hw e9 rfl ck7 rfl (by decide) rfl rfl w89 (Or.inr ⟨rfl, hn, rfl⟩) dX7_init_39 (fun H locs hw => ?_)
  refine lv_aload_n hx hb dX7_init_42 rfl (lv_at hl 0 rfl) ?_
  refine lv_bipush (v := (64 : Int32)) hx hb dX7_init_43 (by decide) ?_
  obtain ⟨h10, e10, hf⟩ := ob hf
  refine r_newI C hw e10 w69 (by show _ + 1 ≤ 8; omega) (by show _ + 64 ≤ 857; omega) (by decide) dX7_init_45 (fun H hw => ?_)
  obtain ⟨h11, e11, hf⟩ := ob hf
  refine r_pR C hw e11 rfl ck7 rfl (by decide) rfl rfl w90 (Or.inr ⟨rfl, hn, rfl⟩) dX7_init_47 (fun H locs hw => ?_)
  refine lv_aload_n hx hb dX7_init_50 rfl (lv_at hl 0 rfl) ?_
  refine lv_bipush (v := (64 : Int32)) hx hb dX7_init_51 (by decide) ?_
  obtain ⟨h12, e12, hf⟩ := ob hf
  refine r_newI C hw e12 w69 (by show _ + 1 ≤ 8; omega) (by show _ + 64 ≤ 857; omega) (by decide) dX7_init_53 (fun H hw => ?_)
  obtain ⟨h13, e13, hf⟩ := ob hf
  refine r_pR C hw e13 rfl ck7 rfl (by decide) rfl rfl w91 (Or.inr ⟨rfl, hn, rfl⟩) dX7_init_55 (fun H locs hw => ?_)
  refine lv_aload_n hx hb dX7_init_58 rfl (lv_at hl 0 rfl) ?_
  refine lv_bipush (v := (64 : Int32)) hx hb dX7_init_59 (by decide) ?_
  obtain ⟨h14, e14, hf⟩ := ob hf
  refine r_newI C hw e14 w69 (by show _ + 1 ≤ 8; omega) (by show _ + 64 ≤ 857; omega) (by decide) dX7_init_61 (fun H hw => ?_)
  obtain ⟨h15, e15, hf⟩ := ob hf
  refine r_pR C hw e15 rfl ck7 rfl (by decide) rfl rfl w93 (Or.inr ⟨rfl, hn, rfl⟩) dX7_init_63 (fun H locs hw => ?_)
  refine lv_aload_n hx hb dX7_init_66 rfl (lv_at hl 0 rfl) ?_
  refine lv_bipush (v := (9 : Int32)) hx hb dX7_init_67 (by decide) ?_
  obtain ⟨h16, e16, hf⟩ := ob hf
  refine r_newI C hw e16 w69 (by show _ + 1 ≤ 8; omega) (by show _ + 9 ≤ 857; omega) (by decide) dX7_init_69 (fun H hw => ?_)
  obtain ⟨h17, e17, hf⟩ := ob hf
  refine r_pR C hw e17 rfl ck7 rfl (by decide) rfl rfl w95 (Or.inr ⟨rfl, hn, rfl⟩) dX7_init_71 (fun H locs hw => ?_)
  obtain ⟨rfl, rfl⟩ := sp hf
  exact r_vret C hw rfl (by omega) (by omega) dX7_init_74
theorem kXX7_init : MK yX7_init cX7_init 1 none 0 := ⟨w76, w5, by decide +kernel⟩
theorem mX7_init {D : va_G} {cy : Nat → ClassId} {s0 : Nat} {l : Launch} {x0 : Nat} {h : Hp} {v : Unit} {h1 : Hp} (hf : fX7_init x0 h = some (v, h1)) : MT D cy s0 l yX7_init cX7_init 1 none rX7_init [.ref x0] h none h1 := by
  refine MT.of (by decide +kernel) (Nat.le_of_ble_eq_true rfl) ?_
  intro p e s m below meth c H locs ls C hn hw hl
  exact bX7_init C hn _ _ _ hf _ _ _ _ _ (Nat.le_of_ble_eq_true rfl) (Nat.le_of_ble_eq_true rfl) hw hl
abbrev rX5_init : Room := { frames := 2, cells := 14, slots := 3289, locals := 45 }
abbrev pX5_init (D : va_G) (cy : Nat → ClassId) (s0 : Nat) (p : Program) (l : Launch) (e : Env) (s : State) (m : MethodId) (args : Array Value) (below : List Frame) (meth : Method) (c : Code) (r : Unit × Hp) (x0 : Nat) (x1 : Int32) (x2 : Nat) (x3 : Nat) (x4 : Nat) (h : Hp) : Prop := ∀ (H : Heap) (locs : List Loc) (ls : Array Slot) (cells slots : Nat), cells + (14) ≤ 14 → slots + (3289) ≤ 3289 → WS D cy s0 s h H locs → lv_has ls 5 [(0, .ref x0), (1, .int x1), (2, .ref x2), (3, .ref x3), (4, .ref x4)] → W p l e rX5_init s m args below meth c H locs cells slots (MQ below (QQ D cy s0 none r.2) args s 14 3289 (fun q => s0 ≤ q)) (F0 m 0 ls [])
set_option maxRecDepth 100000 in
set_option maxHeartbeats 4000000 in
theorem bX5_init {D : va_G} {cy : Nat → ClassId} {s0 : Nat} {p : Program} {l : Launch} {e : Env} {s : State} {m : MethodId} {args : Array Value} {below : List Frame} {meth : Method} {c : Code} (C : CX D cy s0 p s m args meth c cX5_init 5 RX5 none) (hn : meth.name = "<init>") : ∀ (x0 : Nat) (x1 : Int32) (x2 : Nat) (x3 : Nat) (x4 : Nat) (h : Hp) (r : Unit × Hp), fX5_init x0 x1 x2 x3 x4 h = some r → pX5_init D cy s0 p l e s m args below meth c r x0 x1 x2 x3 x4 h := by
  intro x0 x1 x2 x3 x4 h ⟨rv, rh⟩ hf H locs ls cells slots hc hs hw hl
  unfold fX5_init at hf
  have hx := C.1
  have hb := C.2.1
  refine lv_aload_n hx hb dX5_init_0 rfl (lv_at hl 0 rfl) ?_
  refine W.objInit hx hb C.2.2.2.1 (C.2.2.2.2.1 _ w152) (C.2.2.2.2.1 _ w28) (C.2.2.2.2.1 _ w29) rfl (by rw [C.2.2.1]; exact hl.1) rfl dX5_init_1 (Nat.le_of_ble_eq_true rfl) (Nat.le_of_ble_eq_true rfl) ?_
  refine W.eq (g2 := F0 m 4 ls []) rfl ?_
  refine lv_aload_n hx hb dX5_init_4 rfl (lv_at hl 0 rfl) ?_
  obtain ⟨h1, e1, hf⟩ := ob hf
  refine r_newN C hw e1 ck7 w153 (by show _ + 1 ≤ 14; omega) (by show _ + 14 ≤ 3289; omega) dX5_init_5 (fun H hw => ?_)
  refine lv_dup hx hb dX5_init_8 rfl ?_
  obtain ⟨z2, h2, e2, hf⟩ := ob2 hf
  refine r_callIN C hw (mX7_init e2) kXX7_init rfl nw154 w75 ⟨Nat.le_of_ble_eq_true rfl, Nat.le_of_ble_eq_true rfl⟩ rfl hl.1 (rest := [.ref (hZ h), .ref x0]) rfl (Nat.le_of_ble_eq_true rfl) dX5_init_9 (mc := 8) (ms := 857) rfl rfl ⟨by show _ + 8 ≤ 14; omega, by show _ + 857 ≤ 3289; omega⟩ (fun H locs hw => ?_)
  refine W.eq (g2 := F0 m 12 ls [.ref (hZ h), .ref x0]) rfl ?_
  obtain ⟨h3, e3, hf⟩ := ob hf
  refine r_pR C hw e3 rfl ck5 rfl (by decide) rfl rfl w191 (Or.inr ⟨rfl, hn, rfl⟩) dX5_init_12 (fun H locs hw => ?_)
  refine lv_aload_n hx hb dX5_init_15 rfl (lv_at hl 0 rfl) ?_
  refine lv_sipush (v := (1201 : Int32)) hx hb dX5_init_16 (by decide) ?_
  obtain ⟨h4, e4, hf⟩ := ob hf
  refine r_newI C hw e4 w69 (by show _ + 1 ≤ 14; omega) (by show _ + 1201 ≤ 3289; omega) (by decide) dX5_init_19 (fun H hw => ?_)
  obtain ⟨h5, e5, hf⟩ := ob hf
  refine r_pR C hw e5 rfl ck5 rfl (by decide) rfl rfl w193 (Or.inr ⟨rfl, hn, rfl⟩) dX5_init_21 (fun H locs hw => ?_)
  refine lv_aload_n hx hb dX5_init_24 rfl (lv_at hl 0 rfl) ?_
  refine lv_iconst (v := (1 : Int32)) hx hb dX5_init_25 (by decide) ?_
  obtain ⟨h6, e6, hf⟩ := ob hf
  refine r_pZ C hw e6 ck5 rfl (by decide) rfl w195 (Or.inl rfl) dX5_init_26 (fun H locs hw => ?_)
  refine lv_aload_n hx hb dX5_init_29 rfl (lv_at hl 0 rfl) ?_
  refine lv_iconst (v := (0 : Int32)) hx hb dX5_init_30 (by decide) ?_
  obtain ⟨h7, e7, hf⟩ := ob hf
  refine r_pI C hw e7 ck5 rfl (by decide) rfl w197 (Or.inl rfl) dX5_init_31 (fun H locs hw => ?_)
  refine lv_aload_n hx hb dX5_init_34 rfl (lv_at hl 0 rfl) ?_
  refine lv_iconst (v := (5 : Int32)) hx hb dX5_init_35 (by decide) ?_
  obtain ⟨h8, e8, hf⟩ := ob hf
  refine r_newI C hw e8 w69 (by show _ + 1 ≤ 14; omega) (by show _ + 5 ≤ 3289; omega) (by decide) dX5_init_36 (fun H hw => ?_)
  obtain ⟨h9, e9, hf⟩ := ob hf
  refine r_pR C hw e9 rfl ck5 rfl (by decide) rfl rfl w207 (Or.inr ⟨rfl, hn, rfl⟩) dX5_init_38 (fun H locs hw => ?_)
  refine lv_aload_n hx hb dX5_init_41 rfl (lv_at hl 0 rfl) ?_
  refine lv_iconst (v := (5 : Int32)) hx hb dX5_init_42 (by decide) ?_
  obtain ⟨h10, e10, hf⟩ := ob hf
  refine r_newI C hw e10 w69 (by show _ + 1 ≤ 14; omega) (by show _ + 5 ≤ 3289; omega) (by decide) dX5_init_43 (fun H hw => ?_)
  obtain ⟨h11, e11, hf⟩ := ob hf
  refine r_pR C hw e11 rfl ck5 rfl (by decide) rfl rfl w208 (Or.inr ⟨rfl, hn, rfl⟩) dX5_init_45 (fun H locs hw => ?_)
  refine lv_aload_n hx hb dX5_init_48 rfl (lv_at hl 0 rfl) ?_
  refine lv_iload_n hx hb dX5_init_49 rfl (lv_at hl 1 rfl) ?_
  obtain ⟨h12, e12, hf⟩ := ob hf
  refine r_pI C hw e12 ck5 rfl (by decide) rfl w201 (Or.inr ⟨rfl, hn, rfl⟩) dX5_init_50 (fun H locs hw => ?_)
  refine lv_aload_n hx hb dX5_init_53 rfl (lv_at hl 0 rfl) ?_
  refine lv_aload_n hx hb dX5_init_54 rfl (lv_at hl 2 rfl) ?_
  obtain ⟨h13, e13, hf⟩ := ob hf
  refine r_pR C hw e13 rfl ck5 rfl (by decide) rfl rfl w202 (Or.inr ⟨rfl, hn, rfl⟩) dX5_init_55 (fun H locs hw => ?_)
  refine lv_aload_n hx hb dX5_init_58 rfl (lv_at hl 0 rfl) ?_
  refine lv_aload_n hx hb dX5_init_59 rfl (lv_at hl 3 rfl) ?_
  obtain ⟨h14, e14, hf⟩ := ob hf
  refine r_pR C hw e14 rfl ck5 rfl (by decide) rfl rfl w203 (Or.inr ⟨rfl, hn, rfl⟩) dX5_init_60 (fun H locs hw => ?_)
  refine lv_aload_n hx hb dX5_init_63 rfl (lv_at hl 0 rfl) ?_
  obtain ⟨h15, e15, hf⟩ := ob hf
  refine r_newN C hw e15 ck1 w155 (by show _ + 1 ≤ 14; omega) (by show _ + 6 ≤ 3289; omega) dX5_init_64 (fun H hw => ?_)
  refine lv_dup hx hb dX5_init_67 rfl ?_
  refine lv_aload hx hb dX5_init_68 (lv_at hl 4 rfl) ?_
  obtain ⟨z16, h16, e16, hf⟩ := ob2 hf
  refine r_callI C hw (mX1_init e16) kXX1_init rfl w157 w158 ⟨Nat.le_of_ble_eq_true rfl, Nat.le_of_ble_eq_true rfl⟩ rfl hl.1 (rest := [.ref (hZ h14), .ref x0]) rfl (Nat.le_of_ble_eq_true rfl) dX5_init_70 (mc := 1) (ms := 1201) rfl rfl ⟨by show _ + 1 ≤ 14; omega, by show _ + 1201 ≤ 3289; omega⟩ (fun H locs hw => ?_)
  refine W.eq (g2 := F0 m 73 ls [.ref (hZ h14), .ref x0]) rfl ?_
  obtain ⟨h17, e17, hf⟩ := ob hf
  refine r_pR C hw e17 rfl ck5 rfl (by decide) rfl rfl w189 (Or.inr ⟨rfl, hn, rfl⟩) dX5_init_73 (fun H locs hw => ?_)
  obtain ⟨rfl, rfl⟩ := sp hf
  exact r_vret C hw rfl (by omega) (by omega) dX5_init_76
theorem kXX5_init : MK yX5_init cX5_init 5 none 4 := ⟨w151, w6, by decide +kernel⟩
theorem mX5_init {D : va_G} {cy : Nat → ClassId} {s0 : Nat} {l : Launch} {x0 : Nat} {x1 : Int32} {x2 : Nat} {x3 : Nat} {x4 : Nat} {h : Hp} {v : Unit} {h1 : Hp} (hf : fX5_init x0 x1 x2 x3 x4 h = some (v, h1)) : MT D cy s0 l yX5_init cX5_init 5 none rX5_init [.ref x0, .int x1, .ref x2, .ref x3, .ref x4] h none h1 := by
  refine MT.of (by decide +kernel) (Nat.le_of_ble_eq_true rfl) ?_
  intro p e s m below meth c H locs ls C hn hw hl
  exact bX5_init C hn _ _ _ _ _ _ _ hf _ _ _ _ _ (Nat.le_of_ble_eq_true rfl) (Nat.le_of_ble_eq_true rfl) hw hl
abbrev rX5_knowsResult : Room := { frames := 0, cells := 0, slots := 0, locals := 0 }
abbrev pX5_knowsResult (D : va_G) (cy : Nat → ClassId) (s0 : Nat) (p : Program) (l : Launch) (e : Env) (s : State) (m : MethodId) (args : Array Value) (below : List Frame) (meth : Method) (c : Code) (r : Int32 × Hp) (x0 : Nat) (x1 : Int32) (h : Hp) : Prop := ∀ (H : Heap) (locs : List Loc) (ls : Array Slot) (cells slots : Nat), cells + (0) ≤ 0 → slots + (0) ≤ 0 → WS D cy s0 s h H locs → lv_has ls 2 [(0, .ref x0), (1, .int x1)] → W p l e rX5_knowsResult s m args below meth c H locs cells slots (MQ below (QQ D cy s0 (some (.int r.1)) r.2) args s 0 0 (fun q => s0 ≤ q)) (F0 m 0 ls [])
set_option maxRecDepth 100000 in
set_option maxHeartbeats 4000000 in
theorem bX5_knowsResult {D : va_G} {cy : Nat → ClassId} {s0 : Nat} {p : Program} {l : Launch} {e : Env} {s : State} {m : MethodId} {args : Array Value} {below : List Frame} {meth : Method} {c : Code} (C : CX D cy s0 p s m args meth c cX5_knowsResult 2 RX5 (some .boolean)) (hn : meth.name = "knowsResult") : ∀ (x0 : Nat) (x1 : Int32) (h : Hp) (r : Int32 × Hp), fX5_knowsResult x0 x1 h = some r → pX5_knowsResult D cy s0 p l e s m args below meth c r x0 x1 h := by
  intro x0 x1 h ⟨rv, rh⟩ hf H locs ls cells slots hc hs hw hl
  unfold fX5_knowsResult at hf
  have hx := C.1
  have hb := C.2.1
  refine lv_aload_n hx hb dX5_knowsResult_0 rfl (lv_at hl 0 rfl) ?_
  obtain ⟨z1, e1, hf⟩ := ob hf
  refine r_gI C hw e1 ck5 rfl (by decide) w195 dX5_knowsResult_1 ?_
  refine lv_if_eq (tgt := 36) hx hb dX5_knowsResult_4 (by decide) (fun c2 => ?_) (fun c2 => ?_)
  · have hf := ip hf c2
    refine lv_iconst (v := (0 : Int32)) hx hb dX5_knowsResult_36 (by decide) ?_
    obtain ⟨rfl, rfl⟩ := sp hf
    exact r_iret C hw rfl (nz (Or.inl rfl)) (by omega) (by omega) dX5_knowsResult_37
  · have hf := ie hf c2
    refine lv_iload_n hx hb dX5_knowsResult_7 rfl (lv_at hl 1 rfl) ?_
    refine lv_aload_n hx hb dX5_knowsResult_8 rfl (lv_at hl 0 rfl) ?_
    obtain ⟨z3, e3, hf⟩ := ob hf
    refine r_gI C hw e3 ck5 rfl (by decide) w206 dX5_knowsResult_9 ?_
    refine lv_icmp_le (tgt := 36) hx hb dX5_knowsResult_12 (by decide) (fun c4 => ?_) (fun c4 => ?_)
    · have hf := ip hf c4
      refine lv_iconst (v := (0 : Int32)) hx hb dX5_knowsResult_36 (by decide) ?_
      obtain ⟨rfl, rfl⟩ := sp hf
      exact r_iret C hw rfl (nz (Or.inl rfl)) (by omega) (by omega) dX5_knowsResult_37
    · have hf := ie hf c4
      refine lv_iload_n hx hb dX5_knowsResult_15 rfl (lv_at hl 1 rfl) ?_
      refine lv_aload_n hx hb dX5_knowsResult_16 rfl (lv_at hl 0 rfl) ?_
      obtain ⟨z5, e5, hf⟩ := ob hf
      refine r_gI C hw e5 ck5 rfl (by decide) w205 dX5_knowsResult_17 ?_
      refine lv_icmp_gt (tgt := 36) hx hb dX5_knowsResult_20 (by decide) (fun c6 => ?_) (fun c6 => ?_)
      · have hf := ip hf c6
        refine lv_iconst (v := (0 : Int32)) hx hb dX5_knowsResult_36 (by decide) ?_
        obtain ⟨rfl, rfl⟩ := sp hf
        exact r_iret C hw rfl (nz (Or.inl rfl)) (by omega) (by omega) dX5_knowsResult_37
      · have hf := ie hf c6
        refine lv_iload_n hx hb dX5_knowsResult_23 rfl (lv_at hl 1 rfl) ?_
        refine lv_aload_n hx hb dX5_knowsResult_24 rfl (lv_at hl 0 rfl) ?_
        obtain ⟨z7, e7, hf⟩ := ob hf
        refine r_gR C hw e7 ck5 rfl (by decide) w193 dX5_knowsResult_25 ?_
        cases z7 with
        | none =>
          have hf := on_n hf
          cases hf
        | some a8 =>
          have hf := on_s hf
          refine W.eq (g2 := F0 m 28 ls [.ref a8, .int x1]) rfl ?_
          obtain ⟨z9, e9, hf⟩ := ob hf
          refine r_alen C hw e9 (by decide) rfl dX5_knowsResult_28 ?_
          refine lv_icmp_ge (tgt := 36) hx hb dX5_knowsResult_29 (by decide) (fun c10 => ?_) (fun c10 => ?_)
          · have hf := ip hf c10
            refine lv_iconst (v := (0 : Int32)) hx hb dX5_knowsResult_36 (by decide) ?_
            obtain ⟨rfl, rfl⟩ := sp hf
            exact r_iret C hw rfl (nz (Or.inl rfl)) (by omega) (by omega) dX5_knowsResult_37
          · have hf := ie hf c10
            refine lv_iconst (v := (1 : Int32)) hx hb dX5_knowsResult_32 (by decide) ?_
            refine lv_goto (tgt := 37) hx hb dX5_knowsResult_33 (by decide) ?_
            obtain ⟨rfl, rfl⟩ := sp hf
            exact r_iret C hw rfl (nz (Or.inr rfl)) (by omega) (by omega) dX5_knowsResult_37
theorem kXX5_knowsResult : MK yX5_knowsResult cX5_knowsResult 2 (some .boolean) 1 := ⟨w833, w6, by decide +kernel⟩
theorem mX5_knowsResult {D : va_G} {cy : Nat → ClassId} {s0 : Nat} {l : Launch} {x0 : Nat} {x1 : Int32} {h : Hp} {v : Int32} {h1 : Hp} (hf : fX5_knowsResult x0 x1 h = some (v, h1)) : MT D cy s0 l yX5_knowsResult cX5_knowsResult 2 (some .boolean) rX5_knowsResult [.ref x0, .int x1] h (some (.int v)) h1 := by
  refine MT.of (by decide +kernel) (Nat.le_of_ble_eq_true rfl) ?_
  intro p e s m below meth c H locs ls C hn hw hl
  exact bX5_knowsResult C hn _ _ _ _ hf _ _ _ _ _ (Nat.le_of_ble_eq_true rfl) (Nat.le_of_ble_eq_true rfl) hw hl
abbrev rX9_isNode : Room := { frames := 0, cells := 0, slots := 0, locals := 0 }
abbrev pX9_isNode (D : va_G) (cy : Nat → ClassId) (s0 : Nat) (p : Program) (l : Launch) (e : Env) (s : State) (m : MethodId) (args : Array Value) (below : List Frame) (meth : Method) (c : Code) (r : Int32 × Hp) (x0 : Int32) (h : Hp) : Prop := ∀ (H : Heap) (locs : List Loc) (ls : Array Slot) (cells slots : Nat), cells + (0) ≤ 0 → slots + (0) ≤ 0 → WS D cy s0 s h H locs → lv_has ls 1 [(0, .int x0)] → W p l e rX9_isNode s m args below meth c H locs cells slots (MQ below (QQ D cy s0 (some (.int r.1)) r.2) args s 0 0 (fun q => s0 ≤ q)) (F0 m 0 ls [])
set_option maxRecDepth 100000 in
set_option maxHeartbeats 4000000 in
theorem bX9_isNode {D : va_G} {cy : Nat → ClassId} {s0 : Nat} {p : Program} {l : Launch} {e : Env} {s : State} {m : MethodId} {args : Array Value} {below : List Frame} {meth : Method} {c : Code} (C : CX D cy s0 p s m args meth c cX9_isNode 1 RX9 (some .boolean)) (hn : meth.name = "isNode") : ∀ (x0 : Int32) (h : Hp) (r : Int32 × Hp), fX9_isNode x0 h = some r → pX9_isNode D cy s0 p l e s m args below meth c r x0 h := by
  intro x0 h ⟨rv, rh⟩ hf H locs ls cells slots hc hs hw hl
  unfold fX9_isNode at hf
  have hx := C.1
  have hb := C.2.1
  refine lv_iload_n hx hb dX9_isNode_0 rfl (lv_at hl 0 rfl) ?_
  refine lv_if_lt (tgt := 13) hx hb dX9_isNode_1 (by decide) (fun c1 => ?_) (fun c1 => ?_)
  · have hf := ip hf c1
    refine lv_iconst (v := (0 : Int32)) hx hb dX9_isNode_13 (by decide) ?_
    obtain ⟨rfl, rfl⟩ := sp hf
    exact r_iret C hw rfl (nz (Or.inl rfl)) (by omega) (by omega) dX9_isNode_14
  · have hf := ie hf c1
    refine lv_iload_n hx hb dX9_isNode_4 rfl (lv_at hl 0 rfl) ?_
    refine lv_iconst (v := (5 : Int32)) hx hb dX9_isNode_5 (by decide) ?_
    refine lv_icmp_ge (tgt := 13) hx hb dX9_isNode_6 (by decide) (fun c2 => ?_) (fun c2 => ?_)
    · have hf := ip hf c2
      refine lv_iconst (v := (0 : Int32)) hx hb dX9_isNode_13 (by decide) ?_
      obtain ⟨rfl, rfl⟩ := sp hf
      exact r_iret C hw rfl (nz (Or.inl rfl)) (by omega) (by omega) dX9_isNode_14
    · have hf := ie hf c2
      refine lv_iconst (v := (1 : Int32)) hx hb dX9_isNode_9 (by decide) ?_
      refine lv_goto (tgt := 14) hx hb dX9_isNode_10 (by decide) ?_
      obtain ⟨rfl, rfl⟩ := sp hf
      exact r_iret C hw rfl (nz (Or.inr rfl)) (by omega) (by omega) dX9_isNode_14
theorem kXX9_isNode : MK yX9_isNode cX9_isNode 1 (some .boolean) 1 := ⟨w463, w1, by decide +kernel⟩
theorem mX9_isNode {D : va_G} {cy : Nat → ClassId} {s0 : Nat} {l : Launch} {x0 : Int32} {h : Hp} {v : Int32} {h1 : Hp} (hf : fX9_isNode x0 h = some (v, h1)) : MT D cy s0 l yX9_isNode cX9_isNode 1 (some .boolean) rX9_isNode [.int x0] h (some (.int v)) h1 := by
  refine MT.of (by decide +kernel) (Nat.le_of_ble_eq_true rfl) ?_
  intro p e s m below meth c H locs ls C hn hw hl
  exact bX9_isNode C hn _ _ _ hf _ _ _ _ _ (Nat.le_of_ble_eq_true rfl) (Nat.le_of_ble_eq_true rfl) hw hl
abbrev rX5_receive : Room := { frames := 6, cells := 20, slots := 126, locals := 143 }
abbrev pX5_receive_168 (D : va_G) (cy : Nat → ClassId) (s0 : Nat) (p : Program) (l : Launch) (e : Env) (s : State) (m : MethodId) (args : Array Value) (below : List Frame) (meth : Method) (c : Code) (r : Unit × Hp) (x0 : Nat) (h : Hp) : Prop := ∀ (H : Heap) (locs : List Loc) (ls : Array Slot) (cells slots : Nat), cells + (0) ≤ 20 → slots + (0) ≤ 126 → WS D cy s0 s h H locs → lv_has ls 2 [(0, .ref x0)] → W p l e rX5_receive s m args below meth c H locs cells slots (MQ below (QQ D cy s0 none r.2) args s 20 126 (fun q => s0 ≤ q)) (F0 m 168 ls [])
abbrev pX5_receive_57 (D : va_G) (cy : Nat → ClassId) (s0 : Nat) (p : Program) (l : Launch) (e : Env) (s : State) (m : MethodId) (args : Array Value) (below : List Frame) (meth : Method) (c : Code) (r : Unit × Hp) (x0 : Nat) (x1 : Nat) (h : Hp) : Prop := ∀ (H : Heap) (locs : List Loc) (ls : Array Slot) (cells slots : Nat), cells + (20) ≤ 20 → slots + (126) ≤ 126 → WS D cy s0 s h H locs → lv_has ls 2 [(0, .ref x0), (1, .ref x1)] → W p l e rX5_receive s m args below meth c H locs cells slots (MQ below (QQ D cy s0 none r.2) args s 20 126 (fun q => s0 ≤ q)) (F0 m 57 ls [])
abbrev pX5_receive (D : va_G) (cy : Nat → ClassId) (s0 : Nat) (p : Program) (l : Launch) (e : Env) (s : State) (m : MethodId) (args : Array Value) (below : List Frame) (meth : Method) (c : Code) (r : Unit × Hp) (x0 : Nat) (x1 : Nat) (h : Hp) : Prop := ∀ (H : Heap) (locs : List Loc) (ls : Array Slot) (cells slots : Nat), cells + (20) ≤ 20 → slots + (126) ≤ 126 → WS D cy s0 s h H locs → lv_has ls 2 [(0, .ref x0), (1, .ref x1)] → W p l e rX5_receive s m args below meth c H locs cells slots (MQ below (QQ D cy s0 none r.2) args s 20 126 (fun q => s0 ≤ q)) (F0 m 0 ls [])
set_option maxRecDepth 100000 in
set_option maxHeartbeats 4000000 in
theorem bX5_receive_168 {D : va_G} {cy : Nat → ClassId} {s0 : Nat} {p : Program} {l : Launch} {e : Env} {s : State} {m : MethodId} {args : Array Value} {below : List Frame} {meth : Method} {c : Code} (C : CX D cy s0 p s m args meth c cX5_receive 2 RX5 none) (hn : meth.name = "receive") : ∀ (x0 : Nat) (h : Hp) (r : Unit × Hp), fX5_receive_168 x0 h = some r → pX5_receive_168 D cy s0 p l e s m args below meth c r x0 h := by
  intro x0 h ⟨rv, rh⟩ hf H locs ls cells slots hc hs hw hl
  unfold fX5_receive_168 at hf
  have hx := C.1
  have hb := C.2.1
  refine lv_aload_n hx hb dX5_receive_168 rfl (lv_at hl 0 rfl) ?_
  obtain ⟨kb1, hf⟩ := ig hf
  obtain ⟨z1, h1, e1, hf⟩ := ob2 hf
  refine r_callV C hw (mX5_applyCommitted e1) kXX5_applyCommitted ck5 rfl kb1 w617 w619 v18 ⟨Nat.le_of_ble_eq_true rfl, Nat.le_of_ble_eq_true rfl⟩ rfl hl.1 (rest := []) rfl (Nat.le_of_ble_eq_true rfl) dX5_receive_169 (mc := 0) (ms := 0) rfl rfl ⟨by show _ + 0 ≤ 20; omega, by show _ + 0 ≤ 126; omega⟩ (fun H locs hw => ?_)
  refine W.eq (g2 := F0 m 172 ls []) rfl ?_
  obtain ⟨rfl, rfl⟩ := sp hf
  exact r_vret C hw rfl (by omega) (by omega) dX5_receive_172
set_option maxRecDepth 100000 in
set_option maxHeartbeats 4000000 in
theorem bX5_receive_57 {D : va_G} {cy : Nat → ClassId} {s0 : Nat} {p : Program} {l : Launch} {e : Env} {s : State} {m : MethodId} {args : Array Value} {below : List Frame} {meth : Method} {c : Code} (C : CX D cy s0 p s m args meth c cX5_receive 2 RX5 none) (hn : meth.name = "receive") : ∀ (x0 : Nat) (x1 : Nat) (h : Hp) (r : Unit × Hp), fX5_receive_57 x0 x1 h = some r → pX5_receive_57 D cy s0 p l e s m args below meth c r x0 x1 h := by
  intro x0 x1 h ⟨rv, rh⟩ hf H locs ls cells slots hc hs hw hl
  unfold fX5_receive_57 at hf
  have hx := C.1
  have hb := C.2.1
  refine lv_aload_n hx hb dX5_receive_57 rfl (lv_at hl 1 rfl) ?_
  obtain ⟨z1, e1, hf⟩ := ob hf
  refine r_gI C hw e1 ck4 rfl (by decide) w412 dX5_receive_58 ?_
  refine lv_aload_n hx hb dX5_receive_61 rfl (lv_at hl 0 rfl) ?_
  obtain ⟨z2, e2, hf⟩ := ob hf
  refine r_gR C hw e2 ck5 rfl (by decide) w189 dX5_receive_62 ?_
  cases z2 with
  | none =>
    have hf := on_n hf
    cases hf
  | some a3 =>
    have hf := on_s hf
    refine W.eq (g2 := F0 m 65 ls [.ref a3, .int z1]) rfl ?_
    obtain ⟨z4, e4, hf⟩ := ob hf
    refine r_gI C hw e4 ck1 rfl (by decide) w162 dX5_receive_65 ?_
    refine lv_icmp_ge (tgt := 77) hx hb dX5_receive_68 (by decide) (fun c5 => ?_) (fun c5 => ?_)
    · have hf := ip hf c5
      refine lv_aload_n hx hb dX5_receive_77 rfl (lv_at hl 1 rfl) ?_
      obtain ⟨z6, e6, hf⟩ := ob hf
      refine r_gI C hw e6 ck4 rfl (by decide) w406 dX5_receive_78 ?_
      by_cases n13 : z6 = (0 : Int32)
      · have hf := ip hf n13
        refine lv_tableIn (tgt := 120) (off := 39) hx hb dX5_receive_81 (by rw [n13]; decide) (by rw [n13]; decide) (by rw [n13]; rfl) (by decide) ?_
        refine lv_aload_n hx hb dX5_receive_120 rfl (lv_at hl 0 rfl) ?_
        refine lv_aload_n hx hb dX5_receive_121 rfl (lv_at hl 1 rfl) ?_
        obtain ⟨kb7, hf⟩ := ig hf
        obtain ⟨z7, h7, e7, hf⟩ := ob2 hf
        refine r_callV C hw (mX5_handleAsk e7) kXX5_handleAsk ck5 rfl kb7 w472 w474 v7 ⟨Nat.le_of_ble_eq_true rfl, Nat.le_of_ble_eq_true rfl⟩ rfl hl.1 (rest := []) rfl (Nat.le_of_ble_eq_true rfl) dX5_receive_122 (mc := 1) (ms := 9) rfl rfl ⟨by show _ + 1 ≤ 20; omega, by show _ + 9 ≤ 126; omega⟩ (fun H locs hw => ?_)
        refine W.eq (g2 := F0 m 125 ls []) rfl ?_
        refine lv_goto (tgt := 168) hx hb dX5_receive_125 (by decide) ?_
        exact bX5_receive_168 C hn _ _ _ hf _ _ _ _ _ (by omega) (by omega) hw (lv_sub hl [0] rfl)
      · have hf := ie hf n13
        by_cases n14 : z6 = (1 : Int32)
        · have hf := ip hf n14
          refine lv_tableIn (tgt := 128) (off := 47) hx hb dX5_receive_81 (by rw [n14]; decide) (by rw [n14]; decide) (by rw [n14]; rfl) (by decide) ?_
          refine lv_aload_n hx hb dX5_receive_128 rfl (lv_at hl 0 rfl) ?_
          refine lv_aload_n hx hb dX5_receive_129 rfl (lv_at hl 1 rfl) ?_
          obtain ⟨kb8, hf⟩ := ig hf
          obtain ⟨z8, h8, e8, hf⟩ := ob2 hf
          refine r_callV C hw (mX5_handleVote e8) kXX5_handleVote ck5 rfl kb8 w476 w478 v8 ⟨Nat.le_of_ble_eq_true rfl, Nat.le_of_ble_eq_true rfl⟩ rfl hl.1 (rest := []) rfl (Nat.le_of_ble_eq_true rfl) dX5_receive_130 (mc := 20) (ms := 126) rfl rfl ⟨by show _ + 20 ≤ 20; omega, by show _ + 126 ≤ 126; omega⟩ (fun H locs hw => ?_)
          refine W.eq (g2 := F0 m 133 ls []) rfl ?_
          refine lv_goto (tgt := 168) hx hb dX5_receive_133 (by decide) ?_
          exact bX5_receive_168 C hn _ _ _ hf _ _ _ _ _ (by omega) (by omega) hw (lv_sub hl [0] rfl)
        · have hf := ie hf n14
          by_cases n15 : z6 = (2 : Int32)
          · have hf := ip hf n15
            refine lv_tableIn (tgt := 136) (off := 55) hx hb dX5_receive_81 (by rw [n15]; decide) (by rw [n15]; decide) (by rw [n15]; rfl) (by decide) ?_
            refine lv_aload_n hx hb dX5_receive_136 rfl (lv_at hl 0 rfl) ?_
            refine lv_aload_n hx hb dX5_receive_137 rfl (lv_at hl 1 rfl) ?_
            obtain ⟨kb9, hf⟩ := ig hf
            obtain ⟨z9, h9, e9, hf⟩ := ob2 hf
            refine r_callV C hw (mX5_handleAppend e9) kXX5_handleAppend ck5 rfl kb9 w571 w573 v11 ⟨Nat.le_of_ble_eq_true rfl, Nat.le_of_ble_eq_true rfl⟩ rfl hl.1 (rest := []) rfl (Nat.le_of_ble_eq_true rfl) dX5_receive_138 (mc := 1) (ms := 9) rfl rfl ⟨by show _ + 1 ≤ 20; omega, by show _ + 9 ≤ 126; omega⟩ (fun H locs hw => ?_)
            refine W.eq (g2 := F0 m 141 ls []) rfl ?_
            refine lv_goto (tgt := 168) hx hb dX5_receive_141 (by decide) ?_
            exact bX5_receive_168 C hn _ _ _ hf _ _ _ _ _ (by omega) (by omega) hw (lv_sub hl [0] rfl)
          · have hf := ie hf n15
            by_cases n16 : z6 = (3 : Int32)
            · have hf := ip hf n16
              refine lv_tableIn (tgt := 144) (off := 63) hx hb dX5_receive_81 (by rw [n16]; decide) (by rw [n16]; decide) (by rw [n16]; rfl) (by decide) ?_
              refine lv_aload_n hx hb dX5_receive_144 rfl (lv_at hl 0 rfl) ?_
              refine lv_aload_n hx hb dX5_receive_145 rfl (lv_at hl 1 rfl) ?_
              obtain ⟨kb10, hf⟩ := ig hf
              obtain ⟨z10, h10, e10, hf⟩ := ob2 hf
              refine r_callV C hw (mX5_handleAccept e10) kXX5_handleAccept ck5 rfl kb10 w585 w587 v13 ⟨Nat.le_of_ble_eq_true rfl, Nat.le_of_ble_eq_true rfl⟩ rfl hl.1 (rest := []) rfl (Nat.le_of_ble_eq_true rfl) dX5_receive_146 (mc := 2) (ms := 13) rfl rfl ⟨by show _ + 2 ≤ 20; omega, by show _ + 13 ≤ 126; omega⟩ (fun H locs hw => ?_)
              refine W.eq (g2 := F0 m 149 ls []) rfl ?_
              refine lv_goto (tgt := 168) hx hb dX5_receive_149 (by decide) ?_
              exact bX5_receive_168 C hn _ _ _ hf _ _ _ _ _ (by omega) (by omega) hw (lv_sub hl [0] rfl)
            · have hf := ie hf n16
              by_cases n17 : z6 = (4 : Int32)
              · have hf := ip hf n17
                refine lv_tableIn (tgt := 152) (off := 71) hx hb dX5_receive_81 (by rw [n17]; decide) (by rw [n17]; decide) (by rw [n17]; rfl) (by decide) ?_
                refine lv_aload_n hx hb dX5_receive_152 rfl (lv_at hl 0 rfl) ?_
                refine lv_aload_n hx hb dX5_receive_153 rfl (lv_at hl 1 rfl) ?_
                obtain ⟨kb11, hf⟩ := ig hf
                obtain ⟨z11, h11, e11, hf⟩ := ob2 hf
                refine r_callV C hw (mX5_handleDenial e11) kXX5_handleDenial ck5 rfl kb11 w593 w595 v15 ⟨Nat.le_of_ble_eq_true rfl, Nat.le_of_ble_eq_true rfl⟩ rfl hl.1 (rest := []) rfl (Nat.le_of_ble_eq_true rfl) dX5_receive_154 (mc := 2) (ms := 13) rfl rfl ⟨by show _ + 2 ≤ 20; omega, by show _ + 13 ≤ 126; omega⟩ (fun H locs hw => ?_)
                refine W.eq (g2 := F0 m 157 ls []) rfl ?_
                refine lv_goto (tgt := 168) hx hb dX5_receive_157 (by decide) ?_
                exact bX5_receive_168 C hn _ _ _ hf _ _ _ _ _ (by omega) (by omega) hw (lv_sub hl [0] rfl)
              · have hf := ie hf n17
                by_cases n18 : z6 = (5 : Int32)
                · have hf := ip hf n18
                  refine lv_tableIn (tgt := 160) (off := 79) hx hb dX5_receive_81 (by rw [n18]; decide) (by rw [n18]; decide) (by rw [n18]; rfl) (by decide) ?_
                  refine lv_aload_n hx hb dX5_receive_160 rfl (lv_at hl 0 rfl) ?_
                  refine lv_aload_n hx hb dX5_receive_161 rfl (lv_at hl 1 rfl) ?_
                  obtain ⟨kb12, hf⟩ := ig hf
                  obtain ⟨z12, h12, e12, hf⟩ := ob2 hf
                  refine r_callV C hw (mX5_handleSnapshot e12) kXX5_handleSnapshot ck5 rfl kb12 w597 w599 v16 ⟨Nat.le_of_ble_eq_true rfl, Nat.le_of_ble_eq_true rfl⟩ rfl hl.1 (rest := []) rfl (Nat.le_of_ble_eq_true rfl) dX5_receive_162 (mc := 1) (ms := 9) rfl rfl ⟨by show _ + 1 ≤ 20; omega, by show _ + 9 ≤ 126; omega⟩ (fun H locs hw => ?_)
                  refine W.eq (g2 := F0 m 165 ls []) rfl ?_
                  refine lv_goto (tgt := 168) hx hb dX5_receive_165 (by decide) ?_
                  exact bX5_receive_168 C hn _ _ _ hf _ _ _ _ _ (by omega) (by omega) hw (lv_sub hl [0] rfl)
                · have hf := ie hf n18
                  refine lv_tableOut (tgt := 168) hx hb dX5_receive_81 (tsw_out (x := z6) 0 [(0 : Int32), (1 : Int32), (2 : Int32), (3 : Int32), (4 : Int32), (5 : Int32)] (by decide) (List.forall_mem_cons.mpr ⟨n13, List.forall_mem_cons.mpr ⟨n14, List.forall_mem_cons.mpr ⟨n15, List.forall_mem_cons.mpr ⟨n16, List.forall_mem_cons.mpr ⟨n17, List.forall_mem_cons.mpr ⟨n18, fun _ h9 => absurd h9 List.not_mem_nil⟩⟩⟩⟩⟩⟩)) (by decide) ?_
                  exact bX5_receive_168 C hn _ _ _ hf _ _ _ _ _ (by omega) (by omega) hw (lv_sub hl [0] rfl)
    · have hf := ie hf c5
      refine lv_aload_n hx hb dX5_receive_71 rfl (lv_at hl 0 rfl) ?_
      refine lv_aload_n hx hb dX5_receive_72 rfl (lv_at hl 1 rfl) ?_
      obtain ⟨kb19, hf⟩ := ig hf
      obtain ⟨z19, h19, e19, hf⟩ := ob2 hf
      refine r_callV C hw (mX5_answerOutdated e19) kXX5_answerOutdated ck5 rfl kb19 w464 w466 v5 ⟨Nat.le_of_ble_eq_true rfl, Nat.le_of_ble_eq_true rfl⟩ rfl hl.1 (rest := []) rfl (Nat.le_of_ble_eq_true rfl) dX5_receive_73 (mc := 1) (ms := 9) rfl rfl ⟨by show _ + 1 ≤ 20; omega, by show _ + 9 ≤ 126; omega⟩ (fun H locs hw => ?_)
      refine W.eq (g2 := F0 m 76 ls []) rfl ?_
      obtain ⟨rfl, rfl⟩ := sp hf
      exact r_vret C hw rfl (by omega) (by omega) dX5_receive_76
set_option maxRecDepth 100000 in
set_option maxHeartbeats 4000000 in
theorem bX5_receive {D : va_G} {cy : Nat → ClassId} {s0 : Nat} {p : Program} {l : Launch} {e : Env} {s : State} {m : MethodId} {args : Array Value} {below : List Frame} {meth : Method} {c : Code} (C : CX D cy s0 p s m args meth c cX5_receive 2 RX5 none) (hn : meth.name = "receive") : ∀ (x0 : Nat) (x1 : Nat) (h : Hp) (r : Unit × Hp), fX5_receive x0 x1 h = some r → pX5_receive D cy s0 p l e s m args below meth c r x0 x1 h := by
  intro x0 x1 h ⟨rv, rh⟩ hf H locs ls cells slots hc hs hw hl
  unfold fX5_receive at hf
  have hx := C.1
  have hb := C.2.1
  refine lv_aload_n hx hb dX5_receive_0 rfl (lv_at hl 0 rfl) ?_
  obtain ⟨z1, e1, hf⟩ := ob hf
  refine r_gI C hw e1 ck5 rfl (by decide) w195 dX5_receive_1 ?_
  refine lv_if_eq (tgt := 17) hx hb dX5_receive_4 (by decide) (fun c2 => ?_) (fun c2 => ?_)
  · have hf := ip hf c2
    obtain ⟨rfl, rfl⟩ := sp hf
    exact r_vret C hw rfl (by omega) (by omega) dX5_receive_17
  · have hf := ie hf c2
    refine lv_aload_n hx hb dX5_receive_7 rfl (lv_at hl 1 rfl) ?_
    obtain ⟨z3, e3, hf⟩ := ob hf
    refine r_gI C hw e3 ck4 rfl (by decide) w408 dX5_receive_8 ?_
    obtain ⟨z4, h4, e4, hf⟩ := ob2 hf
    refine r_callSN C hw (mX9_isNode e4) kXX9_isNode nw461 w462 ⟨Nat.le_of_ble_eq_true rfl, Nat.le_of_ble_eq_true rfl⟩ rfl hl.1 (rest := []) rfl (Nat.le_of_ble_eq_true rfl) dX5_receive_11 (mc := 0) (ms := 0) rfl rfl ⟨by show _ + 0 ≤ 20; omega, by show _ + 0 ≤ 126; omega⟩ (fun H locs hw => ?_)
    refine W.eq (g2 := F0 m 14 ls [.int z4]) rfl ?_
    refine lv_if_ne (tgt := 18) hx hb dX5_receive_14 (by decide) (fun c5 => ?_) (fun c5 => ?_)
    · have hf := ie hf c5
      refine lv_aload_n hx hb dX5_receive_18 rfl (lv_at hl 1 rfl) ?_
      obtain ⟨z6, e6, hf⟩ := ob hf
      refine r_gI C hw e6 ck4 rfl (by decide) w412 dX5_receive_19 ?_
      refine lv_aload_n hx hb dX5_receive_22 rfl (lv_at hl 0 rfl) ?_
      obtain ⟨z7, e7, hf⟩ := ob hf
      refine r_gR C hw e7 ck5 rfl (by decide) w189 dX5_receive_23 ?_
      cases z7 with
      | none =>
        have hf := on_n hf
        cases hf
      | some a8 =>
        have hf := on_s hf
        refine W.eq (g2 := F0 m 26 ls [.ref a8, .int z6]) rfl ?_
        obtain ⟨z9, e9, hf⟩ := ob hf
        refine r_gI C hw e9 ck1 rfl (by decide) w162 dX5_receive_26 ?_
        refine lv_icmp_le (tgt := 57) hx hb dX5_receive_29 (by decide) (fun c10 => ?_) (fun c10 => ?_)
        · have hf := ip hf c10
          exact bX5_receive_57 C hn _ _ _ _ hf _ _ _ _ _ (by omega) (by omega) hw (lv_sub hl [0, 1] rfl)
        · have hf := ie hf c10
          refine lv_aload_n hx hb dX5_receive_32 rfl (lv_at hl 0 rfl) ?_
          refine lv_aload_n hx hb dX5_receive_33 rfl (lv_at hl 0 rfl) ?_
          obtain ⟨z11, e11, hf⟩ := ob hf
          refine r_gR C hw e11 ck5 rfl (by decide) w189 dX5_receive_34 ?_
          cases z11 with
          | none =>
            have hf := on_n hf
            cases hf
          | some a12 =>
            have hf := on_s hf
            refine W.eq (g2 := F0 m 37 ls [.ref a12, .ref x0]) rfl ?_
            refine lv_aload_n hx hb dX5_receive_37 rfl (lv_at hl 1 rfl) ?_
            obtain ⟨z13, e13, hf⟩ := ob hf
            refine r_gI C hw e13 ck4 rfl (by decide) w412 dX5_receive_38 ?_
            refine lv_iconst (v := (-1 : Int32)) hx hb dX5_receive_41 (by decide) ?_
            obtain ⟨kb14, hf⟩ := ig hf
            obtain ⟨z14, h14, e14, hf⟩ := ob2 hf
            refine r_callV C hw (mX1_recordVote e14) kXX1_recordVote ck1 rfl kb14 w374 w375 w376 ⟨Nat.le_of_ble_eq_true rfl, Nat.le_of_ble_eq_true rfl⟩ rfl hl.1 (rest := [.ref x0]) rfl (Nat.le_of_ble_eq_true rfl) dX5_receive_42 (mc := 0) (ms := 0) rfl rfl ⟨by show _ + 0 ≤ 20; omega, by show _ + 0 ≤ 126; omega⟩ (fun H locs hw => ?_)
            refine W.eq (g2 := F0 m 45 ls [.int z14, .ref x0]) rfl ?_
            obtain ⟨kb15, hf⟩ := ig hf
            obtain ⟨z15, h15, e15, hf⟩ := ob2 hf
            refine r_callV C hw (mX5_survives e15) kXX5_survives ck5 rfl kb15 w382 w384 v3 ⟨Nat.le_of_ble_eq_true rfl, Nat.le_of_ble_eq_true rfl⟩ rfl hl.1 (rest := []) rfl (Nat.le_of_ble_eq_true rfl) dX5_receive_45 (mc := 0) (ms := 0) rfl rfl ⟨by show _ + 0 ≤ 20; omega, by show _ + 0 ≤ 126; omega⟩ (fun H locs hw => ?_)
            refine W.eq (g2 := F0 m 48 ls [.int z15]) rfl ?_
            refine lv_if_ne (tgt := 52) hx hb dX5_receive_48 (by decide) (fun c16 => ?_) (fun c16 => ?_)
            · have hf := ie hf c16
              refine lv_aload_n hx hb dX5_receive_52 rfl (lv_at hl 0 rfl) ?_
              refine lv_iconst (v := (0 : Int32)) hx hb dX5_receive_53 (by decide) ?_
              obtain ⟨h17, e17, hf⟩ := ob hf
              refine r_pI C hw e17 ck5 rfl (by decide) rfl w197 (Or.inl rfl) dX5_receive_54 (fun H locs hw => ?_)
              exact bX5_receive_57 C hn _ _ _ _ hf _ _ _ _ _ (by omega) (by omega) hw (lv_sub hl [0, 1] rfl)
            · have hf := ip hf c16
              obtain ⟨rfl, rfl⟩ := sp hf
              exact r_vret C hw rfl (by omega) (by omega) dX5_receive_51
    · have hf := ip hf c5
      obtain ⟨rfl, rfl⟩ := sp hf
      exact r_vret C hw rfl (by omega) (by omega) dX5_receive_17
theorem kXX5_receive : MK yX5_receive cX5_receive 2 none 1 := ⟨w460, w6, by decide +kernel⟩
theorem mX5_receive {D : va_G} {cy : Nat → ClassId} {s0 : Nat} {l : Launch} {x0 : Nat} {x1 : Nat} {h : Hp} {v : Unit} {h1 : Hp} (hf : fX5_receive x0 x1 h = some (v, h1)) : MT D cy s0 l yX5_receive cX5_receive 2 none rX5_receive [.ref x0, .ref x1] h none h1 := by
  refine MT.of (by decide +kernel) (Nat.le_of_ble_eq_true rfl) ?_
  intro p e s m below meth c H locs ls C hn hw hl
  exact bX5_receive C hn _ _ _ _ hf _ _ _ _ _ (Nat.le_of_ble_eq_true rfl) (Nat.le_of_ble_eq_true rfl) hw hl
abbrev rX5_standForElection : Room := { frames := 2, cells := 9, slots := 81, locals := 50 }
abbrev pX5_standForElection_60 (D : va_G) (cy : Nat → ClassId) (s0 : Nat) (p : Program) (l : Launch) (e : Env) (s : State) (m : MethodId) (args : Array Value) (below : List Frame) (meth : Method) (c : Code) (n : Nat) (r : Unit × Hp) (x0 : Nat) (x1 : Int32) (x2 : Int32) (h : Hp) : Prop := ∀ (H : Heap) (locs : List Loc) (ls : Array Slot) (cells slots : Nat), cells + (1 * n + 1) ≤ 9 → slots + (9 * n + 9) ≤ 81 → WS D cy s0 s h H locs → lv_has ls 3 [(0, .ref x0), (1, .int x1), (2, .int x2)] → W p l e rX5_standForElection s m args below meth c H locs cells slots (MQ below (QQ D cy s0 none r.2) args s 9 81 (fun q => s0 ≤ q)) (F0 m 60 ls [])
abbrev pX5_standForElection (D : va_G) (cy : Nat → ClassId) (s0 : Nat) (p : Program) (l : Launch) (e : Env) (s : State) (m : MethodId) (args : Array Value) (below : List Frame) (meth : Method) (c : Code) (r : Unit × Hp) (x0 : Nat) (h : Hp) : Prop := ∀ (H : Heap) (locs : List Loc) (ls : Array Slot) (cells slots : Nat), cells + (9) ≤ 9 → slots + (81) ≤ 81 → WS D cy s0 s h H locs → lv_has ls 3 [(0, .ref x0)] → W p l e rX5_standForElection s m args below meth c H locs cells slots (MQ below (QQ D cy s0 none r.2) args s 9 81 (fun q => s0 ≤ q)) (F0 m 0 ls [])
set_option maxRecDepth 100000 in
set_option maxHeartbeats 4000000 in
theorem bX5_standForElection_60_body {D : va_G} {cy : Nat → ClassId} {s0 : Nat} {p : Program} {l : Launch} {e : Env} {s : State} {m : MethodId} {args : Array Value} {below : List Frame} {meth : Method} {c : Code} (C : CX D cy s0 p s m args meth c cX5_standForElection 3 RX5 none) (hn : meth.name = "standForElection") (n : Nat) {k60 : Nat → Int32 → Int32 → Hp → Option (Unit × Hp)} (hk60 : ∀ (x0 : Nat) (x1 : Int32) (x2 : Int32) (h : Hp) (r : Unit × Hp), k60 x0 x1 x2 h = some r → pX5_standForElection_60 D cy s0 p l e s m args below meth c n r x0 x1 x2 h) : ∀ (x0 : Nat) (x1 : Int32) (x2 : Int32) (h : Hp) (r : Unit × Hp), fX5_standForElection_60_body k60 x0 x1 x2 h = some r → pX5_standForElection_60 D cy s0 p l e s m args below meth c (n + 1) r x0 x1 x2 h := by
  intro x0 x1 x2 h ⟨rv, rh⟩ hf H locs ls cells slots hc hs hw hl
  unfold fX5_standForElection_60_body at hf
  have hx := C.1
  have hb := C.2.1
  refine lv_iload_n hx hb dX5_standForElection_60 rfl (lv_at hl 2 rfl) ?_
  refine lv_iconst (v := (5 : Int32)) hx hb dX5_standForElection_61 (by decide) ?_
  refine lv_icmp_ge (tgt := 114) hx hb dX5_standForElection_62 (by decide) (fun c1 => ?_) (fun c1 => ?_)
  · have hf := ip hf c1
    obtain ⟨rfl, rfl⟩ := sp hf
    exact r_vret C hw rfl (by omega) (by omega) dX5_standForElection_114
  · have hf := ie hf c1
    refine lv_iload_n hx hb dX5_standForElection_65 rfl (lv_at hl 2 rfl) ?_
    refine lv_aload_n hx hb dX5_standForElection_66 rfl (lv_at hl 0 rfl) ?_
    obtain ⟨z2, e2, hf⟩ := ob hf
    refine r_gI C hw e2 ck5 rfl (by decide) w201 dX5_standForElection_67 ?_
    refine lv_icmp_eq (tgt := 108) hx hb dX5_standForElection_70 (by decide) (fun c3 => ?_) (fun c3 => ?_)
    · have hf := ip hf c3
      refine lv_iinc (v := (x2 + (1 : Int32))) (lv' := [(2, .int (x2 + (1 : Int32))), (0, .ref x0), (1, .int x1)]) hx hb dX5_standForElection_108 hl (k := 2) rfl rfl (by decide) rfl (fun ls hl => ?_)
      refine lv_goto (tgt := 60) hx hb dX5_standForElection_111 (by decide) ?_
      exact hk60 _ _ _ _ _ hf _ _ _ _ _ (by omega) (by omega) hw (lv_sub hl [1, 2, 0] rfl)
    · have hf := ie hf c3
      refine lv_aload_n hx hb dX5_standForElection_73 rfl (lv_at hl 0 rfl) ?_
      obtain ⟨z4, e4, hf⟩ := ob hf
      refine r_gR C hw e4 ck5 rfl (by decide) w202 dX5_standForElection_74 ?_
      cases z4 with
      | none =>
        have hf := on_n hf
        cases hf
      | some a5 =>
        have hf := on_s hf
        refine W.eq (g2 := F0 m 77 ls [.ref a5]) rfl ?_
        obtain ⟨h6, e6, hf⟩ := ob hf
        refine r_newN C hw e6 ck4 w398 (by show _ + 1 ≤ 9; omega) (by show _ + 9 ≤ 81; omega) dX5_standForElection_77 (fun H hw => ?_)
        refine lv_dup hx hb dX5_standForElection_80 rfl ?_
        refine lv_iconst (v := (0 : Int32)) hx hb dX5_standForElection_81 (by decide) ?_
        refine lv_aload_n hx hb dX5_standForElection_82 rfl (lv_at hl 0 rfl) ?_
        obtain ⟨z7, e7, hf⟩ := ob hf
        refine r_gI C hw e7 ck5 rfl (by decide) w201 dX5_standForElection_83 ?_
        refine lv_iload_n hx hb dX5_standForElection_86 rfl (lv_at hl 2 rfl) ?_
        refine lv_aload_n hx hb dX5_standForElection_87 rfl (lv_at hl 0 rfl) ?_
        obtain ⟨z8, e8, hf⟩ := ob hf
        refine r_gR C hw e8 ck5 rfl (by decide) w189 dX5_standForElection_88 ?_
        cases z8 with
        | none =>
          have hf := on_n hf
          cases hf
        | some a9 =>
          have hf := on_s hf
          refine W.eq (g2 := F0 m 91 ls [.ref a9, .int x2, .int z7, .int (0 : Int32), .ref (hZ h), .ref (hZ h), .ref a5]) rfl ?_
          obtain ⟨z10, e10, hf⟩ := ob hf
          refine r_gI C hw e10 ck1 rfl (by decide) w162 dX5_standForElection_91 ?_
          refine lv_aload_n hx hb dX5_standForElection_94 rfl (lv_at hl 0 rfl) ?_
          obtain ⟨z11, e11, hf⟩ := ob hf
          refine r_gR C hw e11 ck5 rfl (by decide) w189 dX5_standForElection_95 ?_
          cases z11 with
          | none =>
            have hf := on_n hf
            cases hf
          | some a12 =>
            have hf := on_s hf
            refine W.eq (g2 := F0 m 98 ls [.ref a12, .int z10, .int x2, .int z7, .int (0 : Int32), .ref (hZ h), .ref (hZ h), .ref a5]) rfl ?_
            obtain ⟨z13, e13, hf⟩ := ob hf
            refine r_gI C hw e13 ck1 rfl (by decide) w166 dX5_standForElection_98 ?_
            refine lv_iload_n hx hb dX5_standForElection_101 rfl (lv_at hl 1 rfl) ?_
            obtain ⟨z14, h14, e14, hf⟩ := ob2 hf
            refine r_callI C hw (mX4_init e14) kXX4_init rfl w400 w401 ⟨Nat.le_of_ble_eq_true rfl, Nat.le_of_ble_eq_true rfl⟩ rfl hl.1 (rest := [.ref (hZ h), .ref a5]) rfl (Nat.le_of_ble_eq_true rfl) dX5_standForElection_102 (mc := 0) (ms := 0) rfl rfl ⟨by show _ + 0 ≤ 9; omega, by show _ + 0 ≤ 81; omega⟩ (fun H locs hw => ?_)
            refine W.eq (g2 := F0 m 105 ls [.ref (hZ h), .ref a5]) rfl ?_
            obtain ⟨kb15, hf⟩ := ig hf
            obtain ⟨z15, h15, e15, hf⟩ := ob2 hf
            refine r_callV C hw (mX3_send e15) kXX3_send ck3 rfl kb15 w441 w442 w443 ⟨Nat.le_of_ble_eq_true rfl, Nat.le_of_ble_eq_true rfl⟩ rfl hl.1 (rest := []) rfl (Nat.le_of_ble_eq_true rfl) dX5_standForElection_105 (mc := 0) (ms := 0) rfl rfl ⟨by show _ + 0 ≤ 9; omega, by show _ + 0 ≤ 81; omega⟩ (fun H locs hw => ?_)
            refine W.eq (g2 := F0 m 108 ls []) rfl ?_
            refine lv_iinc (v := (x2 + (1 : Int32))) (lv' := [(2, .int (x2 + (1 : Int32))), (0, .ref x0), (1, .int x1)]) hx hb dX5_standForElection_108 hl (k := 2) rfl rfl (by decide) rfl (fun ls hl => ?_)
            refine lv_goto (tgt := 60) hx hb dX5_standForElection_111 (by decide) ?_
            exact hk60 _ _ _ _ _ hf _ _ _ _ _ (by omega) (by omega) hw (lv_sub hl [1, 2, 0] rfl)
set_option maxRecDepth 100000 in
set_option maxHeartbeats 4000000 in
theorem bX5_standForElection_60 {D : va_G} {cy : Nat → ClassId} {s0 : Nat} {p : Program} {l : Launch} {e : Env} {s : State} {m : MethodId} {args : Array Value} {below : List Frame} {meth : Method} {c : Code} (C : CX D cy s0 p s m args meth c cX5_standForElection 3 RX5 none) (hn : meth.name = "standForElection") : ∀ (n : Nat) (x0 : Nat) (x1 : Int32) (x2 : Int32) (h : Hp) (r : Unit × Hp), fX5_standForElection_60 n x0 x1 x2 h = some r → pX5_standForElection_60 D cy s0 p l e s m args below meth c n r x0 x1 x2 h := by
  intro n
  induction n with
  | zero => intro x0 x1 x2 h r hf; exact absurd hf (fun q => by cases q)
  | succ n ih => exact bX5_standForElection_60_body C hn n ih
set_option maxRecDepth 100000 in
set_option maxHeartbeats 4000000 in
theorem bX5_standForElection {D : va_G} {cy : Nat → ClassId} {s0 : Nat} {p : Program} {l : Launch} {e : Env} {s : State} {m : MethodId} {args : Array Value} {below : List Frame} {meth : Method} {c : Code} (C : CX D cy s0 p s m args meth c cX5_standForElection 3 RX5 none) (hn : meth.name = "standForElection") : ∀ (x0 : Nat) (h : Hp) (r : Unit × Hp), fX5_standForElection x0 h = some r → pX5_standForElection D cy s0 p l e s m args below meth c r x0 h := by
  intro x0 h ⟨rv, rh⟩ hf H locs ls cells slots hc hs hw hl
  unfold fX5_standForElection at hf
  have hx := C.1
  have hb := C.2.1
  refine lv_aload_n hx hb dX5_standForElection_0 rfl (lv_at hl 0 rfl) ?_
  refine lv_aload_n hx hb dX5_standForElection_1 rfl (lv_at hl 0 rfl) ?_
  obtain ⟨z1, e1, hf⟩ := ob hf
  refine r_gR C hw e1 ck5 rfl (by decide) w189 dX5_standForElection_2 ?_
  cases z1 with
  | none =>
    have hf := on_n hf
    cases hf
  | some a2 =>
    have hf := on_s hf
    refine W.eq (g2 := F0 m 5 ls [.ref a2, .ref x0]) rfl ?_
    refine lv_aload_n hx hb dX5_standForElection_5 rfl (lv_at hl 0 rfl) ?_
    obtain ⟨z3, e3, hf⟩ := ob hf
    refine r_gR C hw e3 ck5 rfl (by decide) w189 dX5_standForElection_6 ?_
    cases z3 with
    | none =>
      have hf := on_n hf
      cases hf
    | some a4 =>
      have hf := on_s hf
      refine W.eq (g2 := F0 m 9 ls [.ref a4, .ref a2, .ref x0]) rfl ?_
      obtain ⟨z5, e5, hf⟩ := ob hf
      refine r_gI C hw e5 ck1 rfl (by decide) w162 dX5_standForElection_9 ?_
      refine lv_iconst (v := (1 : Int32)) hx hb dX5_standForElection_12 (by decide) ?_
      refine lv_iadd hx hb dX5_standForElection_13 ?_
      refine lv_aload_n hx hb dX5_standForElection_14 rfl (lv_at hl 0 rfl) ?_
      obtain ⟨z6, e6, hf⟩ := ob hf
      refine r_gI C hw e6 ck5 rfl (by decide) w201 dX5_standForElection_15 ?_
      obtain ⟨kb7, hf⟩ := ig hf
      obtain ⟨z7, h7, e7, hf⟩ := ob2 hf
      refine r_callV C hw (mX1_recordVote e7) kXX1_recordVote ck1 rfl kb7 w374 w375 w376 ⟨Nat.le_of_ble_eq_true rfl, Nat.le_of_ble_eq_true rfl⟩ rfl hl.1 (rest := [.ref x0]) rfl (Nat.le_of_ble_eq_true rfl) dX5_standForElection_18 (mc := 0) (ms := 0) rfl rfl ⟨by show _ + 0 ≤ 9; omega, by show _ + 0 ≤ 81; omega⟩ (fun H locs hw => ?_)
      refine W.eq (g2 := F0 m 21 ls [.int z7, .ref x0]) rfl ?_
      obtain ⟨kb8, hf⟩ := ig hf
      obtain ⟨z8, h8, e8, hf⟩ := ob2 hf
      refine r_callV C hw (mX5_survives e8) kXX5_survives ck5 rfl kb8 w382 w384 v3 ⟨Nat.le_of_ble_eq_true rfl, Nat.le_of_ble_eq_true rfl⟩ rfl hl.1 (rest := []) rfl (Nat.le_of_ble_eq_true rfl) dX5_standForElection_21 (mc := 0) (ms := 0) rfl rfl ⟨by show _ + 0 ≤ 9; omega, by show _ + 0 ≤ 81; omega⟩ (fun H locs hw => ?_)
      refine W.eq (g2 := F0 m 24 ls [.int z8]) rfl ?_
      refine lv_if_ne (tgt := 28) hx hb dX5_standForElection_24 (by decide) (fun c9 => ?_) (fun c9 => ?_)
      · have hf := ie hf c9
        refine lv_aload_n hx hb dX5_standForElection_28 rfl (lv_at hl 0 rfl) ?_
        refine lv_iconst (v := (1 : Int32)) hx hb dX5_standForElection_29 (by decide) ?_
        obtain ⟨h10, e10, hf⟩ := ob hf
        refine r_pI C hw e10 ck5 rfl (by decide) rfl w197 (Or.inl rfl) dX5_standForElection_30 (fun H locs hw => ?_)
        refine lv_aload_n hx hb dX5_standForElection_33 rfl (lv_at hl 0 rfl) ?_
        refine lv_iconst (v := (1 : Int32)) hx hb dX5_standForElection_34 (by decide) ?_
        refine lv_aload_n hx hb dX5_standForElection_35 rfl (lv_at hl 0 rfl) ?_
        obtain ⟨z11, e11, hf⟩ := ob hf
        refine r_gI C hw e11 ck5 rfl (by decide) w201 dX5_standForElection_36 ?_
        refine lv_ishl hx hb dX5_standForElection_39 ?_
        obtain ⟨h12, e12, hf⟩ := ob hf
        refine r_pI C hw e12 ck5 rfl (by decide) rfl w204 (Or.inl rfl) dX5_standForElection_40 (fun H locs hw => ?_)
        refine lv_aload_n hx hb dX5_standForElection_43 rfl (lv_at hl 0 rfl) ?_
        obtain ⟨z13, e13, hf⟩ := ob hf
        refine r_gR C hw e13 ck5 rfl (by decide) w189 dX5_standForElection_44 ?_
        cases z13 with
        | none =>
          have hf := on_n hf
          cases hf
        | some a14 =>
          have hf := on_s hf
          refine W.eq (g2 := F0 m 47 ls [.ref a14]) rfl ?_
          refine lv_aload_n hx hb dX5_standForElection_47 rfl (lv_at hl 0 rfl) ?_
          obtain ⟨z15, e15, hf⟩ := ob hf
          refine r_gR C hw e15 ck5 rfl (by decide) w189 dX5_standForElection_48 ?_
          cases z15 with
          | none =>
            have hf := on_n hf
            cases hf
          | some a16 =>
            have hf := on_s hf
            refine W.eq (g2 := F0 m 51 ls [.ref a16, .ref a14]) rfl ?_
            obtain ⟨z17, e17, hf⟩ := ob hf
            refine r_gI C hw e17 ck1 rfl (by decide) w166 dX5_standForElection_51 ?_
            obtain ⟨kb18, hf⟩ := ig hf
            obtain ⟨z18, h18, e18, hf⟩ := ob2 hf
            refine r_callV C hw (mX1_termAt e18) kXX1_termAt ck1 rfl kb18 w390 w391 w392 ⟨Nat.le_of_ble_eq_true rfl, Nat.le_of_ble_eq_true rfl⟩ rfl hl.1 (rest := []) rfl (Nat.le_of_ble_eq_true rfl) dX5_standForElection_54 (mc := 0) (ms := 0) rfl rfl ⟨by show _ + 0 ≤ 9; omega, by show _ + 0 ≤ 81; omega⟩ (fun H locs hw => ?_)
            refine W.eq (g2 := F0 m 57 ls [.int z18]) rfl ?_
            refine lv_istore_n (lv' := [(1, .int z18), (0, .ref x0)]) hx hb dX5_standForElection_57 rfl hl (by decide) rfl (fun ls hl => ?_)
            refine lv_iconst (v := (0 : Int32)) hx hb dX5_standForElection_58 (by decide) ?_
            refine lv_istore_n (lv' := [(2, .int (0 : Int32)), (1, .int z18), (0, .ref x0)]) hx hb dX5_standForElection_59 rfl hl (by decide) rfl (fun ls hl => ?_)
            exact bX5_standForElection_60 C hn 8 _ _ _ _ _ hf _ _ _ _ _ (by omega) (by omega) hw (lv_sub hl [2, 1, 0] rfl)
      · have hf := ip hf c9
        obtain ⟨rfl, rfl⟩ := sp hf
        exact r_vret C hw rfl (by omega) (by omega) dX5_standForElection_27
theorem kXX5_standForElection : MK yX5_standForElection cX5_standForElection 3 none 0 := ⟨w373, w6, by decide +kernel⟩
theorem mX5_standForElection {D : va_G} {cy : Nat → ClassId} {s0 : Nat} {l : Launch} {x0 : Nat} {h : Hp} {v : Unit} {h1 : Hp} (hf : fX5_standForElection x0 h = some (v, h1)) : MT D cy s0 l yX5_standForElection cX5_standForElection 3 none rX5_standForElection [.ref x0] h none h1 := by
  refine MT.of (by decide +kernel) (Nat.le_of_ble_eq_true rfl) ?_
  intro p e s m below meth c H locs ls C hn hw hl
  exact bX5_standForElection C hn _ _ _ hf _ _ _ _ _ (Nat.le_of_ble_eq_true rfl) (Nat.le_of_ble_eq_true rfl) hw hl
abbrev rX6_init : Room := { frames := 1, cells := 0, slots := 0, locals := 24 }
abbrev pX6_init (D : va_G) (cy : Nat → ClassId) (s0 : Nat) (p : Program) (l : Launch) (e : Env) (s : State) (m : MethodId) (args : Array Value) (below : List Frame) (meth : Method) (c : Code) (r : Unit × Hp) (x0 : Nat) (x1 : Nat) (x2 : Int32) (x3 : Int32) (h : Hp) : Prop := ∀ (H : Heap) (locs : List Loc) (ls : Array Slot) (cells slots : Nat), cells + (0) ≤ 0 → slots + (0) ≤ 0 → WS D cy s0 s h H locs → lv_has ls 4 [(0, .ref x0), (1, .ref x1), (2, .int x2), (3, .int x3)] → W p l e rX6_init s m args below meth c H locs cells slots (MQ below (QQ D cy s0 none r.2) args s 0 0 (fun q => s0 ≤ q)) (F0 m 0 ls [])
set_option maxRecDepth 100000 in
set_option maxHeartbeats 4000000 in
theorem bX6_init {D : va_G} {cy : Nat → ClassId} {s0 : Nat} {p : Program} {l : Launch} {e : Env} {s : State} {m : MethodId} {args : Array Value} {below : List Frame} {meth : Method} {c : Code} (C : CX D cy s0 p s m args meth c cX6_init 4 RX6 none) (hn : meth.name = "<init>") : ∀ (x0 : Nat) (x1 : Nat) (x2 : Int32) (x3 : Int32) (h : Hp) (r : Unit × Hp), fX6_init x0 x1 x2 x3 h = some r → pX6_init D cy s0 p l e s m args below meth c r x0 x1 x2 x3 h := by
  intro x0 x1 x2 x3 h ⟨rv, rh⟩ hf H locs ls cells slots hc hs hw hl
  unfold fX6_init at hf
  have hx := C.1
  have hb := C.2.1
  refine lv_aload_n hx hb dX6_init_0 rfl (lv_at hl 0 rfl) ?_
  refine W.objInit hx hb C.2.2.2.1 (C.2.2.2.2.1 _ w129) (C.2.2.2.2.1 _ w28) (C.2.2.2.2.1 _ w29) rfl (by rw [C.2.2.1]; exact hl.1) rfl dX6_init_1 (Nat.le_of_ble_eq_true rfl) (Nat.le_of_ble_eq_true rfl) ?_
  refine W.eq (g2 := F0 m 4 ls []) rfl ?_
  refine lv_aload_n hx hb dX6_init_4 rfl (lv_at hl 0 rfl) ?_
  refine lv_aload_n hx hb dX6_init_5 rfl (lv_at hl 1 rfl) ?_
  obtain ⟨h1, e1, hf⟩ := ob hf
  refine r_pR C hw e1 rfl ck6 rfl (by decide) rfl rfl w130 (Or.inr ⟨rfl, hn, rfl⟩) dX6_init_6 (fun H locs hw => ?_)
  refine lv_aload_n hx hb dX6_init_9 rfl (lv_at hl 0 rfl) ?_
  refine lv_iload_n hx hb dX6_init_10 rfl (lv_at hl 2 rfl) ?_
  obtain ⟨h2, e2, hf⟩ := ob hf
  refine r_pI C hw e2 ck6 rfl (by decide) rfl w132 (Or.inr ⟨rfl, hn, rfl⟩) dX6_init_11 (fun H locs hw => ?_)
  refine lv_aload_n hx hb dX6_init_14 rfl (lv_at hl 0 rfl) ?_
  refine lv_iload_n hx hb dX6_init_15 rfl (lv_at hl 3 rfl) ?_
  obtain ⟨h3, e3, hf⟩ := ob hf
  refine r_pI C hw e3 ck6 rfl (by decide) rfl w136 (Or.inr ⟨rfl, hn, rfl⟩) dX6_init_16 (fun H locs hw => ?_)
  obtain ⟨rfl, rfl⟩ := sp hf
  exact r_vret C hw rfl (by omega) (by omega) dX6_init_19
theorem kXX6_init : MK yX6_init cX6_init 4 none 3 := ⟨w128, w4, by decide +kernel⟩
theorem mX6_init {D : va_G} {cy : Nat → ClassId} {s0 : Nat} {l : Launch} {x0 : Nat} {x1 : Nat} {x2 : Int32} {x3 : Int32} {h : Hp} {v : Unit} {h1 : Hp} (hf : fX6_init x0 x1 x2 x3 h = some (v, h1)) : MT D cy s0 l yX6_init cX6_init 4 none rX6_init [.ref x0, .ref x1, .int x2, .int x3] h none h1 := by
  refine MT.of (by decide +kernel) (Nat.le_of_ble_eq_true rfl) ?_
  intro p e s m below meth c H locs ls C hn hw hl
  exact bX6_init C hn _ _ _ _ _ _ hf _ _ _ _ _ (Nat.le_of_ble_eq_true rfl) (Nat.le_of_ble_eq_true rfl) hw hl
