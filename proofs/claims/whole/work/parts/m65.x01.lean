abbrev rX9_nodeAt : Room := { frames := 6, cells := 1, slots := 6, locals := 92 }
abbrev pX9_nodeAt_13 (D : va_G) (cy : Nat → ClassId) (s0 : Nat) (p : Program) (l : Launch) (e : Env) (s : State) (m : MethodId) (args : Array Value) (below : List Frame) (meth : Method) (c : Code) (r : (Option Nat ⊕ Nat) × Hp)  (h : Hp) : Prop := ∀ (H : Heap) (locs : List Loc) (ls : Array Slot) (cells slots : Nat), cells + (1) ≤ 1 → slots + (6) ≤ 6 → WS D cy s0 s h H locs → lv_has ls 2 [] → W p l e rX9_nodeAt s m args below meth c H locs cells slots (vx_MQ below (QX D cy s0 (rxR r.1) r.2) (XX D cy s0 (rxR r.1) r.2) args s 1 6 (fun q => s0 ≤ q)) (F0 m 13 ls [])
abbrev pX9_nodeAt (D : va_G) (cy : Nat → ClassId) (s0 : Nat) (p : Program) (l : Launch) (e : Env) (s : State) (m : MethodId) (args : Array Value) (below : List Frame) (meth : Method) (c : Code) (r : (Option Nat ⊕ Nat) × Hp) (x0 : Nat) (x1 : Int32) (h : Hp) : Prop := ∀ (H : Heap) (locs : List Loc) (ls : Array Slot) (cells slots : Nat), cells + (1) ≤ 1 → slots + (6) ≤ 6 → WS D cy s0 s h H locs → lv_has ls 2 [(0, .ref x0), (1, .int x1)] → W p l e rX9_nodeAt s m args below meth c H locs cells slots (vx_MQ below (QX D cy s0 (rxR r.1) r.2) (XX D cy s0 (rxR r.1) r.2) args s 1 6 (fun q => s0 ≤ q)) (F0 m 0 ls [])
set_option maxRecDepth 100000 in
set_option maxHeartbeats 4000000 in
theorem bX9_nodeAt_13 {D : va_G} {cy : Nat → ClassId} {s0 : Nat} {p : Program} {l : Launch} {e : Env} {s : State} {m : MethodId} {args : Array Value} {below : List Frame} {meth : Method} {c : Code} (Y : CY D cy s0 l p s m args meth c cX9_nodeAt 2 RX9 (some (.object "RaftRegistry$Node"))) (hn : meth.name = "nodeAt") : ∀  (h : Hp) (r : (Option Nat ⊕ Nat) × Hp), fX9_nodeAt_13  h = some r → pX9_nodeAt_13 D cy s0 p l e s m args below meth c r  h := by
  intro  h ⟨rv, rh⟩ hf H locs ls cells slots hc hs hw hl
  unfold fX9_nodeAt_13 at hf
  have C := Y.1
  have hx := C.1
  have hb := C.2.1
  obtain ⟨rfl, rfl⟩ := sp hf
  exact x_throw Y hw (k := 0) rfl xk0_211_215 (by decide : (239, "no such NODE") ∈ STR) hl.1 dX9_nodeAt_13 dX9_nodeAt_16 dX9_nodeAt_17 dX9_nodeAt_19 dX9_nodeAt_22 (Nat.le_of_ble_eq_true rfl) (Nat.le_of_ble_eq_true rfl) (by show _ + 1 ≤ 1; omega) (by show _ + 6 ≤ 6; omega) (by omega) (by omega)
set_option maxRecDepth 100000 in
set_option maxHeartbeats 4000000 in
theorem bX9_nodeAt {D : va_G} {cy : Nat → ClassId} {s0 : Nat} {p : Program} {l : Launch} {e : Env} {s : State} {m : MethodId} {args : Array Value} {below : List Frame} {meth : Method} {c : Code} (Y : CY D cy s0 l p s m args meth c cX9_nodeAt 2 RX9 (some (.object "RaftRegistry$Node"))) (hn : meth.name = "nodeAt") : ∀ (x0 : Nat) (x1 : Int32) (h : Hp) (r : (Option Nat ⊕ Nat) × Hp), fX9_nodeAt x0 x1 h = some r → pX9_nodeAt D cy s0 p l e s m args below meth c r x0 x1 h := by
  intro x0 x1 h ⟨rv, rh⟩ hf H locs ls cells slots hc hs hw hl
  unfold fX9_nodeAt at hf
  have C := Y.1
  have hx := C.1
  have hb := C.2.1
  refine lv_iload_n hx hb dX9_nodeAt_0 rfl (lv_at hl 1 rfl) ?_
  refine lv_if_lt (tgt := 13) hx hb dX9_nodeAt_1 (by decide) (fun c1 => ?_) (fun c1 => ?_)
  · have hf := ip hf c1
    exact bX9_nodeAt_13 Y hn _ _ hf _ _ _ _ _ (by omega) (by omega) hw (lv_sub hl [] rfl)
  · have hf := ie hf c1
    refine lv_iload_n hx hb dX9_nodeAt_4 rfl (lv_at hl 1 rfl) ?_
    refine lv_aload_n hx hb dX9_nodeAt_5 rfl (lv_at hl 0 rfl) ?_
    obtain ⟨z2, e2, hf⟩ := ob hf
    refine r_gR C hw e2 ck9 rfl (by decide) w238 dX9_nodeAt_6 ?_
    cases z2 with
    | none =>
      have hf := on_n hf
      cases hf
    | some a3 =>
      have hf := on_s hf
      refine W.eq (g2 := F0 m 9 ls [.ref a3, .int x1]) rfl ?_
      obtain ⟨z4, e4, hf⟩ := ob hf
      refine r_alen C hw e4 (by decide) rfl dX9_nodeAt_9 ?_
      refine lv_icmp_lt (tgt := 23) hx hb dX9_nodeAt_10 (by decide) (fun c5 => ?_) (fun c5 => ?_)
      · have hf := ip hf c5
        refine lv_aload_n hx hb dX9_nodeAt_23 rfl (lv_at hl 0 rfl) ?_
        obtain ⟨z6, e6, hf⟩ := ob hf
        refine r_gR C hw e6 ck9 rfl (by decide) w238 dX9_nodeAt_24 ?_
        cases z6 with
        | none =>
          have hf := on_n hf
          cases hf
        | some a7 =>
          have hf := on_s hf
          refine W.eq (g2 := F0 m 27 ls [.ref a7]) rfl ?_
          refine lv_iload_n hx hb dX9_nodeAt_27 rfl (lv_at hl 1 rfl) ?_
          obtain ⟨z8, e8, hf⟩ := ob hf
          refine r_aald C hw e8 (by decide) rfl dX9_nodeAt_28 ?_
          cases z8 with
          | none =>
            have hf := on_n hf
            refine W.eq (g2 := F0 m 29 ls [.null]) rfl ?_
            obtain ⟨rfl, rfl⟩ := sp hf
            exact x_aret Y hw rfl rfl (Or.inl ⟨_, rfl⟩) (by omega) (by omega) dX9_nodeAt_29
          | some a9 =>
            have hf := on_s hf
            refine W.eq (g2 := F0 m 29 ls [.ref a9]) rfl ?_
            obtain ⟨rfl, rfl⟩ := sp hf
            exact x_aret Y hw rfl rfl (Or.inl ⟨_, rfl⟩) (by omega) (by omega) dX9_nodeAt_29
      · have hf := ie hf c5
        exact bX9_nodeAt_13 Y hn _ _ hf _ _ _ _ _ (by omega) (by omega) hw (lv_sub hl [] rfl)
theorem kXX9_nodeAt : MK yX9_nodeAt cX9_nodeAt 2 (some (.object "RaftRegistry$Node")) 1 := ⟨w284, w1, by decide +kernel⟩
theorem mX9_nodeAt {D : va_G} {cy : Nat → ClassId} {s0 : Nat} {l : Launch} {x0 : Nat} {x1 : Int32} {h : Hp} {v : (Option Nat ⊕ Nat)} {h1 : Hp} (hst : l.stackTraces = false) (hf : fX9_nodeAt x0 x1 h = some (v, h1)) : XT D cy s0 l yX9_nodeAt cX9_nodeAt 2 (some (.object "RaftRegistry$Node")) rX9_nodeAt [.ref x0, .int x1] h (rxR v) h1 := by
  refine XT.of hst (by decide +kernel) (Nat.le_of_ble_eq_true rfl) ?_
  intro p e s m below meth c H locs ls Y hn hw hl
  exact bX9_nodeAt Y hn _ _ _ _ hf _ _ _ _ _ (Nat.le_of_ble_eq_true rfl) (Nat.le_of_ble_eq_true rfl) hw hl
abbrev rX9_requireWorkingLeader : Room := { frames := 6, cells := 1, slots := 6, locals := 92 }
abbrev pX9_requireWorkingLeader_28 (D : va_G) (cy : Nat → ClassId) (s0 : Nat) (p : Program) (l : Launch) (e : Env) (s : State) (m : MethodId) (args : Array Value) (below : List Frame) (meth : Method) (c : Code) (r : (Unit ⊕ Nat) × Hp)  (h : Hp) : Prop := ∀ (H : Heap) (locs : List Loc) (ls : Array Slot) (cells slots : Nat), cells + (1) ≤ 1 → slots + (6) ≤ 6 → WS D cy s0 s h H locs → lv_has ls 1 [] → W p l e rX9_requireWorkingLeader s m args below meth c H locs cells slots (vx_MQ below (QX D cy s0 (rxV r.1) r.2) (XX D cy s0 (rxV r.1) r.2) args s 1 6 (fun q => s0 ≤ q)) (F0 m 28 ls [])
abbrev pX9_requireWorkingLeader (D : va_G) (cy : Nat → ClassId) (s0 : Nat) (p : Program) (l : Launch) (e : Env) (s : State) (m : MethodId) (args : Array Value) (below : List Frame) (meth : Method) (c : Code) (r : (Unit ⊕ Nat) × Hp) (x0 : Nat) (h : Hp) : Prop := ∀ (H : Heap) (locs : List Loc) (ls : Array Slot) (cells slots : Nat), cells + (1) ≤ 1 → slots + (6) ≤ 6 → WS D cy s0 s h H locs → lv_has ls 1 [(0, .ref x0)] → W p l e rX9_requireWorkingLeader s m args below meth c H locs cells slots (vx_MQ below (QX D cy s0 (rxV r.1) r.2) (XX D cy s0 (rxV r.1) r.2) args s 1 6 (fun q => s0 ≤ q)) (F0 m 0 ls [])
set_option maxRecDepth 100000 in
set_option maxHeartbeats 4000000 in
theorem bX9_requireWorkingLeader_28 {D : va_G} {cy : Nat → ClassId} {s0 : Nat} {p : Program} {l : Launch} {e : Env} {s : State} {m : MethodId} {args : Array Value} {below : List Frame} {meth : Method} {c : Code} (Y : CY D cy s0 l p s m args meth c cX9_requireWorkingLeader 1 RX9 none) (hn : meth.name = "requireWorkingLeader") : ∀  (h : Hp) (r : (Unit ⊕ Nat) × Hp), fX9_requireWorkingLeader_28  h = some r → pX9_requireWorkingLeader_28 D cy s0 p l e s m args below meth c r  h := by
  intro  h ⟨rv, rh⟩ hf H locs ls cells slots hc hs hw hl
  unfold fX9_requireWorkingLeader_28 at hf
  have C := Y.1
  have hx := C.1
  have hb := C.2.1
  obtain ⟨rfl, rfl⟩ := sp hf
  exact x_throw Y hw (k := 1) rfl xk1_52_56 (by decide : (254, "the NODE is down, no leader, or its LOG is full") ∈ STR) hl.1 dX9_requireWorkingLeader_28 dX9_requireWorkingLeader_31 dX9_requireWorkingLeader_32 dX9_requireWorkingLeader_34 dX9_requireWorkingLeader_37 (Nat.le_of_ble_eq_true rfl) (Nat.le_of_ble_eq_true rfl) (by show _ + 1 ≤ 1; omega) (by show _ + 6 ≤ 6; omega) (by omega) (by omega)
set_option maxRecDepth 100000 in
set_option maxHeartbeats 4000000 in
theorem bX9_requireWorkingLeader {D : va_G} {cy : Nat → ClassId} {s0 : Nat} {p : Program} {l : Launch} {e : Env} {s : State} {m : MethodId} {args : Array Value} {below : List Frame} {meth : Method} {c : Code} (Y : CY D cy s0 l p s m args meth c cX9_requireWorkingLeader 1 RX9 none) (hn : meth.name = "requireWorkingLeader") : ∀ (x0 : Nat) (h : Hp) (r : (Unit ⊕ Nat) × Hp), fX9_requireWorkingLeader x0 h = some r → pX9_requireWorkingLeader D cy s0 p l e s m args below meth c r x0 h := by
  intro x0 h ⟨rv, rh⟩ hf H locs ls cells slots hc hs hw hl
  unfold fX9_requireWorkingLeader at hf
  have C := Y.1
  have hx := C.1
  have hb := C.2.1
  refine lv_aload_n hx hb dX9_requireWorkingLeader_0 rfl (lv_at hl 0 rfl) ?_
  obtain ⟨z1, e1, hf⟩ := ob hf
  refine r_gI C hw e1 ck5 rfl (by decide) w196 dX9_requireWorkingLeader_1 ?_
  refine lv_if_eq (tgt := 28) hx hb dX9_requireWorkingLeader_4 (by decide) (fun c2 => ?_) (fun c2 => ?_)
  · have hf := ip hf c2
    exact bX9_requireWorkingLeader_28 Y hn _ _ hf _ _ _ _ _ (by omega) (by omega) hw (lv_sub hl [] rfl)
  · have hf := ie hf c2
    refine lv_aload_n hx hb dX9_requireWorkingLeader_7 rfl (lv_at hl 0 rfl) ?_
    obtain ⟨z3, e3, hf⟩ := ob hf
    refine r_gI C hw e3 ck5 rfl (by decide) w198 dX9_requireWorkingLeader_8 ?_
    refine lv_iconst (v := (2 : Int32)) hx hb dX9_requireWorkingLeader_11 (by decide) ?_
    refine lv_icmp_ne (tgt := 28) hx hb dX9_requireWorkingLeader_12 (by decide) (fun c4 => ?_) (fun c4 => ?_)
    · have hf := ie hf c4
      exact bX9_requireWorkingLeader_28 Y hn _ _ hf _ _ _ _ _ (by omega) (by omega) hw (lv_sub hl [] rfl)
    · have hf := ip hf c4
      refine lv_aload_n hx hb dX9_requireWorkingLeader_15 rfl (lv_at hl 0 rfl) ?_
      obtain ⟨z5, e5, hf⟩ := ob hf
      refine r_gR C hw e5 ck5 rfl (by decide) w190 dX9_requireWorkingLeader_16 ?_
      cases z5 with
      | none =>
        have hf := on_n hf
        cases hf
      | some a6 =>
        have hf := on_s hf
        refine W.eq (g2 := F0 m 19 ls [.ref a6]) rfl ?_
        obtain ⟨z7, e7, hf⟩ := ob hf
        refine r_gI C hw e7 ck1 rfl (by decide) w168 dX9_requireWorkingLeader_19 ?_
        refine lv_sipush (v := (1200 : Int32)) hx hb dX9_requireWorkingLeader_22 (by decide) ?_
        refine lv_icmp_lt (tgt := 38) hx hb dX9_requireWorkingLeader_25 (by decide) (fun c8 => ?_) (fun c8 => ?_)
        · have hf := ip hf c8
          obtain ⟨rfl, rfl⟩ := sp hf
          exact x_vret Y hw rfl (by omega) (by omega) dX9_requireWorkingLeader_38
        · have hf := ie hf c8
          exact bX9_requireWorkingLeader_28 Y hn _ _ hf _ _ _ _ _ (by omega) (by omega) hw (lv_sub hl [] rfl)
theorem kXX9_requireWorkingLeader : MK yX9_requireWorkingLeader cX9_requireWorkingLeader 1 none 1 := ⟨w765, w1, by decide +kernel⟩
theorem mX9_requireWorkingLeader {D : va_G} {cy : Nat → ClassId} {s0 : Nat} {l : Launch} {x0 : Nat} {h : Hp} {v : (Unit ⊕ Nat)} {h1 : Hp} (hst : l.stackTraces = false) (hf : fX9_requireWorkingLeader x0 h = some (v, h1)) : XT D cy s0 l yX9_requireWorkingLeader cX9_requireWorkingLeader 1 none rX9_requireWorkingLeader [.ref x0] h (rxV v) h1 := by
  refine XT.of hst (by decide +kernel) (Nat.le_of_ble_eq_true rfl) ?_
  intro p e s m below meth c H locs ls Y hn hw hl
  exact bX9_requireWorkingLeader Y hn _ _ _ hf _ _ _ _ _ (Nat.le_of_ble_eq_true rfl) (Nat.le_of_ble_eq_true rfl) hw hl
abbrev rX9_beat : Room := { frames := 7, cells := 20, slots := 129, locals := 113 }
abbrev pX9_beat (D : va_G) (cy : Nat → ClassId) (s0 : Nat) (p : Program) (l : Launch) (e : Env) (s : State) (m : MethodId) (args : Array Value) (below : List Frame) (meth : Method) (c : Code) (r : (Int32 ⊕ Nat) × Hp) (x0 : Nat) (x1 : Int32) (h : Hp) : Prop := ∀ (H : Heap) (locs : List Loc) (ls : Array Slot) (cells slots : Nat), cells + (20) ≤ 20 → slots + (129) ≤ 129 → WS D cy s0 s h H locs → lv_has ls 4 [(0, .ref x0), (1, .int x1)] → W p l e rX9_beat s m args below meth c H locs cells slots (vx_MQ below (QX D cy s0 (rxI r.1) r.2) (XX D cy s0 (rxI r.1) r.2) args s 20 129 (fun q => s0 ≤ q)) (F0 m 0 ls [])
set_option maxRecDepth 100000 in
set_option maxHeartbeats 4000000 in
theorem bX9_beat {D : va_G} {cy : Nat → ClassId} {s0 : Nat} {p : Program} {l : Launch} {e : Env} {s : State} {m : MethodId} {args : Array Value} {below : List Frame} {meth : Method} {c : Code} (Y : CY D cy s0 l p s m args meth c cX9_beat 4 RX9 (some .int)) (hn : meth.name = "beat") : ∀ (x0 : Nat) (x1 : Int32) (h : Hp) (r : (Int32 ⊕ Nat) × Hp), fX9_beat x0 x1 h = some r → pX9_beat D cy s0 p l e s m args below meth c r x0 x1 h := by
  intro x0 x1 h ⟨rv, rh⟩ hf H locs ls cells slots hc hs hw hl
  unfold fX9_beat at hf
  have C := Y.1
  have hx := C.1
  have hb := C.2.1
  refine lv_aload_n hx hb dX9_beat_0 rfl (lv_at hl 0 rfl) ?_
  refine lv_iload_n hx hb dX9_beat_1 rfl (lv_at hl 1 rfl) ?_
  obtain ⟨kb1, hf⟩ := ig hf
  rcases obx hf with ⟨z1, h1, e1, hf⟩ | ⟨q1, h1, e1, hf⟩
  · refine x_ret (v := (some (va_rf z1))) rfl hw (x_runV C Y.2.1 hw (mX9_nodeAt Y.2.2.1 e1) kXX9_nodeAt ck9 rfl kb1 w281 w283 v0 ⟨Nat.le_of_ble_eq_true rfl, Nat.le_of_ble_eq_true rfl⟩ rfl hl.1 (rest := []) rfl (Nat.le_of_ble_eq_true rfl) dX9_beat_2 (mc := 1) (ms := 6) rfl rfl ⟨by show _ + 1 ≤ 20; omega, by show _ + 6 ≤ 129; omega⟩) (fun H locs hw => ?_)
    cases z1 with
    | none =>
      have hf := on_n hf
      cases hf
    | some a2 =>
      have hf := on_s hf
      refine W.eq (g2 := F0 m 5 ls [.ref a2]) rfl ?_
      refine lv_astore_n (lv' := [(2, .ref a2), (0, .ref x0), (1, .int x1)]) hx hb dX9_beat_5 rfl hl (by decide) rfl (fun ls hl => ?_)
      refine lv_aload_n hx hb dX9_beat_6 rfl (lv_at hl 0 rfl) ?_
      rcases obx hf with ⟨z3, h3, e3, hf⟩ | ⟨q3, h3, e3, hf⟩
      · refine x_ret (v := none) rfl hw (x_runS C Y.2.1 hw (mX9_requireWorkingLeader Y.2.2.1 e3) kXX9_requireWorkingLeader w763 w764 ⟨Nat.le_of_ble_eq_true rfl, Nat.le_of_ble_eq_true rfl⟩ rfl hl.1 (rest := []) rfl (Nat.le_of_ble_eq_true rfl) dX9_beat_7 (mc := 1) (ms := 6) rfl rfl ⟨by show _ + 1 ≤ 20; omega, by show _ + 6 ≤ 129; omega⟩) (fun H locs hw => ?_)
        refine W.eq (g2 := F0 m 10 ls []) rfl ?_
        refine lv_aload_n hx hb dX9_beat_10 rfl (lv_at hl 1 rfl) ?_
        obtain ⟨z4, e4, hf⟩ := ob hf
        refine r_gR C hw e4 ck9 rfl (by decide) w239 dX9_beat_11 ?_
        cases z4 with
        | none =>
          have hf := on_n hf
          cases hf
        | some a5 =>
          have hf := on_s hf
          refine W.eq (g2 := F0 m 14 ls [.ref a5]) rfl ?_
          obtain ⟨z6, e6, hf⟩ := ob hf
          refine r_gI C hw e6 ck3 rfl (by decide) w41 dX9_beat_14 ?_
          refine lv_istore_n (lv' := [(3, .int z6), (2, .ref a2), (0, .ref x0), (1, .int x1)]) hx hb dX9_beat_17 rfl hl (by decide) rfl (fun ls hl => ?_)
          refine lv_aload_n hx hb dX9_beat_18 rfl (lv_at hl 1 rfl) ?_
          obtain ⟨kb7, hf⟩ := ig hf
          obtain ⟨z7, h7, e7, hf⟩ := ob2 hf
          refine r_callV C hw (mX5_sendToAll e7) kXX5_sendToAll ck5 rfl kb7 w775 w554 w555 ⟨Nat.le_of_ble_eq_true rfl, Nat.le_of_ble_eq_true rfl⟩ rfl hl.1 (rest := []) rfl (Nat.le_of_ble_eq_true rfl) dX9_beat_19 (mc := 18) (ms := 117) rfl rfl ⟨by show _ + 18 ≤ 20; omega, by show _ + 117 ≤ 129; omega⟩ (fun H locs hw => ?_)
          refine W.eq (g2 := F0 m 22 ls []) rfl ?_
          refine lv_aload_n hx hb dX9_beat_22 rfl (lv_at hl 2 rfl) ?_
          obtain ⟨z8, e8, hf⟩ := ob hf
          refine r_gR C hw e8 ck9 rfl (by decide) w239 dX9_beat_23 ?_
          cases z8 with
          | none =>
            have hf := on_n hf
            cases hf
          | some a9 =>
            have hf := on_s hf
            refine W.eq (g2 := F0 m 26 ls [.ref a9]) rfl ?_
            obtain ⟨z10, e10, hf⟩ := ob hf
            refine r_gI C hw e10 ck3 rfl (by decide) w41 dX9_beat_26 ?_
            refine lv_iload_n hx hb dX9_beat_29 rfl (lv_at hl 0 rfl) ?_
            refine lv_isub hx hb dX9_beat_30 ?_
            obtain ⟨rfl, rfl⟩ := sp hf
            exact x_iret Y hw rfl rfl (by omega) (by omega) dX9_beat_31
      · obtain ⟨rfl, rfl⟩ := sp hf
        exact x_thr (k := q3) rfl rfl Y hw (x_runS C Y.2.1 hw (mX9_requireWorkingLeader Y.2.2.1 e3) kXX9_requireWorkingLeader w763 w764 ⟨Nat.le_of_ble_eq_true rfl, Nat.le_of_ble_eq_true rfl⟩ rfl hl.1 (rest := []) rfl (Nat.le_of_ble_eq_true rfl) dX9_beat_7 (mc := 1) (ms := 6) rfl rfl ⟨by show _ + 1 ≤ 20; omega, by show _ + 6 ≤ 129; omega⟩) (by omega) (by omega)
  · obtain ⟨rfl, rfl⟩ := sp hf
    exact x_thr (k := q1) rfl rfl Y hw (x_runV C Y.2.1 hw (mX9_nodeAt Y.2.2.1 e1) kXX9_nodeAt ck9 rfl kb1 w281 w283 v0 ⟨Nat.le_of_ble_eq_true rfl, Nat.le_of_ble_eq_true rfl⟩ rfl hl.1 (rest := []) rfl (Nat.le_of_ble_eq_true rfl) dX9_beat_2 (mc := 1) (ms := 6) rfl rfl ⟨by show _ + 1 ≤ 20; omega, by show _ + 6 ≤ 129; omega⟩) (by omega) (by omega)
theorem kXX9_beat : MK yX9_beat cX9_beat 4 (some .int) 1 := ⟨w774, w1, by decide +kernel⟩
theorem mX9_beat {D : va_G} {cy : Nat → ClassId} {s0 : Nat} {l : Launch} {x0 : Nat} {x1 : Int32} {h : Hp} {v : (Int32 ⊕ Nat)} {h1 : Hp} (hst : l.stackTraces = false) (hf : fX9_beat x0 x1 h = some (v, h1)) : XT D cy s0 l yX9_beat cX9_beat 4 (some .int) rX9_beat [.ref x0, .int x1] h (rxI v) h1 := by
  refine XT.of hst (by decide +kernel) (Nat.le_of_ble_eq_true rfl) ?_
  intro p e s m below meth c H locs ls Y hn hw hl
  exact bX9_beat Y hn _ _ _ _ hf _ _ _ _ _ (Nat.le_of_ble_eq_true rfl) (Nat.le_of_ble_eq_true rfl) hw hl
abbrev rX9_requireUp : Room := { frames := 6, cells := 1, slots := 6, locals := 92 }
abbrev pX9_requireUp (D : va_G) (cy : Nat → ClassId) (s0 : Nat) (p : Program) (l : Launch) (e : Env) (s : State) (m : MethodId) (args : Array Value) (below : List Frame) (meth : Method) (c : Code) (r : (Unit ⊕ Nat) × Hp) (x0 : Nat) (h : Hp) : Prop := ∀ (H : Heap) (locs : List Loc) (ls : Array Slot) (cells slots : Nat), cells + (1) ≤ 1 → slots + (6) ≤ 6 → WS D cy s0 s h H locs → lv_has ls 1 [(0, .ref x0)] → W p l e rX9_requireUp s m args below meth c H locs cells slots (vx_MQ below (QX D cy s0 (rxV r.1) r.2) (XX D cy s0 (rxV r.1) r.2) args s 1 6 (fun q => s0 ≤ q)) (F0 m 0 ls [])
set_option maxRecDepth 100000 in
set_option maxHeartbeats 4000000 in
theorem bX9_requireUp {D : va_G} {cy : Nat → ClassId} {s0 : Nat} {p : Program} {l : Launch} {e : Env} {s : State} {m : MethodId} {args : Array Value} {below : List Frame} {meth : Method} {c : Code} (Y : CY D cy s0 l p s m args meth c cX9_requireUp 1 RX9 none) (hn : meth.name = "requireUp") : ∀ (x0 : Nat) (h : Hp) (r : (Unit ⊕ Nat) × Hp), fX9_requireUp x0 h = some r → pX9_requireUp D cy s0 p l e s m args below meth c r x0 h := by
  intro x0 h ⟨rv, rh⟩ hf H locs ls cells slots hc hs hw hl
  unfold fX9_requireUp at hf
  have C := Y.1
  have hx := C.1
  have hb := C.2.1
  refine lv_aload_n hx hb dX9_requireUp_0 rfl (lv_at hl 0 rfl) ?_
  obtain ⟨z1, e1, hf⟩ := ob hf
  refine r_gI C hw e1 ck5 rfl (by decide) w196 dX9_requireUp_1 ?_
  refine lv_if_ne (tgt := 17) hx hb dX9_requireUp_4 (by decide) (fun c2 => ?_) (fun c2 => ?_)
  · have hf := ie hf c2
    obtain ⟨rfl, rfl⟩ := sp hf
    exact x_vret Y hw rfl (by omega) (by omega) dX9_requireUp_17
  · have hf := ip hf c2
    obtain ⟨rfl, rfl⟩ := sp hf
    exact x_throw Y hw (k := 1) rfl xk1_52_56 (by decide : (252, "the NODE is down") ∈ STR) hl.1 dX9_requireUp_7 dX9_requireUp_10 dX9_requireUp_11 dX9_requireUp_13 dX9_requireUp_16 (Nat.le_of_ble_eq_true rfl) (Nat.le_of_ble_eq_true rfl) (by show _ + 1 ≤ 1; omega) (by show _ + 6 ≤ 6; omega) (by omega) (by omega)
theorem kXX9_requireUp : MK yX9_requireUp cX9_requireUp 1 none 1 := ⟨w785, w1, by decide +kernel⟩
theorem mX9_requireUp {D : va_G} {cy : Nat → ClassId} {s0 : Nat} {l : Launch} {x0 : Nat} {h : Hp} {v : (Unit ⊕ Nat)} {h1 : Hp} (hst : l.stackTraces = false) (hf : fX9_requireUp x0 h = some (v, h1)) : XT D cy s0 l yX9_requireUp cX9_requireUp 1 none rX9_requireUp [.ref x0] h (rxV v) h1 := by
  refine XT.of hst (by decide +kernel) (Nat.le_of_ble_eq_true rfl) ?_
  intro p e s m below meth c H locs ls Y hn hw hl
  exact bX9_requireUp Y hn _ _ _ hf _ _ _ _ _ (Nat.le_of_ble_eq_true rfl) (Nat.le_of_ble_eq_true rfl) hw hl
abbrev rX9_crash : Room := { frames := 7, cells := 2, slots := 12, locals := 113 }
abbrev pX9_crash (D : va_G) (cy : Nat → ClassId) (s0 : Nat) (p : Program) (l : Launch) (e : Env) (s : State) (m : MethodId) (args : Array Value) (below : List Frame) (meth : Method) (c : Code) (r : (Unit ⊕ Nat) × Hp) (x0 : Nat) (x1 : Int32) (h : Hp) : Prop := ∀ (H : Heap) (locs : List Loc) (ls : Array Slot) (cells slots : Nat), cells + (2) ≤ 2 → slots + (12) ≤ 12 → WS D cy s0 s h H locs → lv_has ls 3 [(0, .ref x0), (1, .int x1)] → W p l e rX9_crash s m args below meth c H locs cells slots (vx_MQ below (QX D cy s0 (rxV r.1) r.2) (XX D cy s0 (rxV r.1) r.2) args s 2 12 (fun q => s0 ≤ q)) (F0 m 0 ls [])
set_option maxRecDepth 100000 in
set_option maxHeartbeats 4000000 in
theorem bX9_crash {D : va_G} {cy : Nat → ClassId} {s0 : Nat} {p : Program} {l : Launch} {e : Env} {s : State} {m : MethodId} {args : Array Value} {below : List Frame} {meth : Method} {c : Code} (Y : CY D cy s0 l p s m args meth c cX9_crash 3 RX9 none) (hn : meth.name = "crash") : ∀ (x0 : Nat) (x1 : Int32) (h : Hp) (r : (Unit ⊕ Nat) × Hp), fX9_crash x0 x1 h = some r → pX9_crash D cy s0 p l e s m args below meth c r x0 x1 h := by
  intro x0 x1 h ⟨rv, rh⟩ hf H locs ls cells slots hc hs hw hl
  unfold fX9_crash at hf
  have C := Y.1
  have hx := C.1
  have hb := C.2.1
  refine lv_aload_n hx hb dX9_crash_0 rfl (lv_at hl 0 rfl) ?_
  refine lv_iload_n hx hb dX9_crash_1 rfl (lv_at hl 1 rfl) ?_
  obtain ⟨kb1, hf⟩ := ig hf
  rcases obx hf with ⟨z1, h1, e1, hf⟩ | ⟨q1, h1, e1, hf⟩
  · refine x_ret (v := (some (va_rf z1))) rfl hw (x_runV C Y.2.1 hw (mX9_nodeAt Y.2.2.1 e1) kXX9_nodeAt ck9 rfl kb1 w281 w283 v0 ⟨Nat.le_of_ble_eq_true rfl, Nat.le_of_ble_eq_true rfl⟩ rfl hl.1 (rest := []) rfl (Nat.le_of_ble_eq_true rfl) dX9_crash_2 (mc := 1) (ms := 6) rfl rfl ⟨by show _ + 1 ≤ 2; omega, by show _ + 6 ≤ 12; omega⟩) (fun H locs hw => ?_)
    cases z1 with
    | none =>
      have hf := on_n hf
      cases hf
    | some a2 =>
      have hf := on_s hf
      refine W.eq (g2 := F0 m 5 ls [.ref a2]) rfl ?_
      refine lv_astore_n (lv' := [(2, .ref a2), (0, .ref x0), (1, .int x1)]) hx hb dX9_crash_5 rfl hl (by decide) rfl (fun ls hl => ?_)
      refine lv_aload_n hx hb dX9_crash_6 rfl (lv_at hl 0 rfl) ?_
      rcases obx hf with ⟨z3, h3, e3, hf⟩ | ⟨q3, h3, e3, hf⟩
      · refine x_ret (v := none) rfl hw (x_runS C Y.2.1 hw (mX9_requireUp Y.2.2.1 e3) kXX9_requireUp w783 w784 ⟨Nat.le_of_ble_eq_true rfl, Nat.le_of_ble_eq_true rfl⟩ rfl hl.1 (rest := []) rfl (Nat.le_of_ble_eq_true rfl) dX9_crash_7 (mc := 1) (ms := 6) rfl rfl ⟨by show _ + 1 ≤ 2; omega, by show _ + 6 ≤ 12; omega⟩) (fun H locs hw => ?_)
        refine W.eq (g2 := F0 m 10 ls []) rfl ?_
        refine lv_aload_n hx hb dX9_crash_10 rfl (lv_at hl 0 rfl) ?_
        obtain ⟨kb4, hf⟩ := ig hf
        obtain ⟨z4, h4, e4, hf⟩ := ob2 hf
        refine r_callV C hw (mX5_goDown e4) kXX5_goDown ck5 rfl kb4 w801 w387 w388 ⟨Nat.le_of_ble_eq_true rfl, Nat.le_of_ble_eq_true rfl⟩ rfl hl.1 (rest := []) rfl (Nat.le_of_ble_eq_true rfl) dX9_crash_11 (mc := 0) (ms := 0) rfl rfl ⟨by show _ + 0 ≤ 2; omega, by show _ + 0 ≤ 12; omega⟩ (fun H locs hw => ?_)
        refine W.eq (g2 := F0 m 14 ls []) rfl ?_
        obtain ⟨rfl, rfl⟩ := sp hf
        exact x_vret Y hw rfl (by omega) (by omega) dX9_crash_14
      · obtain ⟨rfl, rfl⟩ := sp hf
        exact x_thr (k := q3) rfl rfl Y hw (x_runS C Y.2.1 hw (mX9_requireUp Y.2.2.1 e3) kXX9_requireUp w783 w784 ⟨Nat.le_of_ble_eq_true rfl, Nat.le_of_ble_eq_true rfl⟩ rfl hl.1 (rest := []) rfl (Nat.le_of_ble_eq_true rfl) dX9_crash_7 (mc := 1) (ms := 6) rfl rfl ⟨by show _ + 1 ≤ 2; omega, by show _ + 6 ≤ 12; omega⟩) (by omega) (by omega)
  · obtain ⟨rfl, rfl⟩ := sp hf
    exact x_thr (k := q1) rfl rfl Y hw (x_runV C Y.2.1 hw (mX9_nodeAt Y.2.2.1 e1) kXX9_nodeAt ck9 rfl kb1 w281 w283 v0 ⟨Nat.le_of_ble_eq_true rfl, Nat.le_of_ble_eq_true rfl⟩ rfl hl.1 (rest := []) rfl (Nat.le_of_ble_eq_true rfl) dX9_crash_2 (mc := 1) (ms := 6) rfl rfl ⟨by show _ + 1 ≤ 2; omega, by show _ + 6 ≤ 12; omega⟩) (by omega) (by omega)
theorem kXX9_crash : MK yX9_crash cX9_crash 3 none 1 := ⟨w800, w1, by decide +kernel⟩
theorem mX9_crash {D : va_G} {cy : Nat → ClassId} {s0 : Nat} {l : Launch} {x0 : Nat} {x1 : Int32} {h : Hp} {v : (Unit ⊕ Nat)} {h1 : Hp} (hst : l.stackTraces = false) (hf : fX9_crash x0 x1 h = some (v, h1)) : XT D cy s0 l yX9_crash cX9_crash 3 none rX9_crash [.ref x0, .int x1] h (rxV v) h1 := by
  refine XT.of hst (by decide +kernel) (Nat.le_of_ble_eq_true rfl) ?_
  intro p e s m below meth c H locs ls Y hn hw hl
  exact bX9_crash Y hn _ _ _ _ hf _ _ _ _ _ (Nat.le_of_ble_eq_true rfl) (Nat.le_of_ble_eq_true rfl) hw hl
abbrev rX9_messageAt : Room := { frames := 6, cells := 1, slots := 6, locals := 92 }
abbrev pX9_messageAt_15 (D : va_G) (cy : Nat → ClassId) (s0 : Nat) (p : Program) (l : Launch) (e : Env) (s : State) (m : MethodId) (args : Array Value) (below : List Frame) (meth : Method) (c : Code) (r : (Option Nat ⊕ Nat) × Hp)  (h : Hp) : Prop := ∀ (H : Heap) (locs : List Loc) (ls : Array Slot) (cells slots : Nat), cells + (1) ≤ 1 → slots + (6) ≤ 6 → WS D cy s0 s h H locs → lv_has ls 2 [] → W p l e rX9_messageAt s m args below meth c H locs cells slots (vx_MQ below (QX D cy s0 (rxR r.1) r.2) (XX D cy s0 (rxR r.1) r.2) args s 1 6 (fun q => s0 ≤ q)) (F0 m 15 ls [])
abbrev pX9_messageAt (D : va_G) (cy : Nat → ClassId) (s0 : Nat) (p : Program) (l : Launch) (e : Env) (s : State) (m : MethodId) (args : Array Value) (below : List Frame) (meth : Method) (c : Code) (r : (Option Nat ⊕ Nat) × Hp) (x0 : Nat) (x1 : Int32) (h : Hp) : Prop := ∀ (H : Heap) (locs : List Loc) (ls : Array Slot) (cells slots : Nat), cells + (1) ≤ 1 → slots + (6) ≤ 6 → WS D cy s0 s h H locs → lv_has ls 2 [(0, .ref x0), (1, .int x1)] → W p l e rX9_messageAt s m args below meth c H locs cells slots (vx_MQ below (QX D cy s0 (rxR r.1) r.2) (XX D cy s0 (rxR r.1) r.2) args s 1 6 (fun q => s0 ≤ q)) (F0 m 0 ls [])
set_option maxRecDepth 100000 in
set_option maxHeartbeats 4000000 in
theorem bX9_messageAt_15 {D : va_G} {cy : Nat → ClassId} {s0 : Nat} {p : Program} {l : Launch} {e : Env} {s : State} {m : MethodId} {args : Array Value} {below : List Frame} {meth : Method} {c : Code} (Y : CY D cy s0 l p s m args meth c cX9_messageAt 2 RX9 (some (.object "RaftRegistry$Message"))) (hn : meth.name = "messageAt") : ∀  (h : Hp) (r : (Option Nat ⊕ Nat) × Hp), fX9_messageAt_15  h = some r → pX9_messageAt_15 D cy s0 p l e s m args below meth c r  h := by
  intro  h ⟨rv, rh⟩ hf H locs ls cells slots hc hs hw hl
  unfold fX9_messageAt_15 at hf
  have C := Y.1
  have hx := C.1
  have hb := C.2.1
  obtain ⟨rfl, rfl⟩ := sp hf
  exact x_throw Y hw (k := 0) rfl xk0_211_215 (by decide : (241, "no such MESSAGE") ∈ STR) hl.1 dX9_messageAt_15 dX9_messageAt_18 dX9_messageAt_19 dX9_messageAt_21 dX9_messageAt_24 (Nat.le_of_ble_eq_true rfl) (Nat.le_of_ble_eq_true rfl) (by show _ + 1 ≤ 1; omega) (by show _ + 6 ≤ 6; omega) (by omega) (by omega)
set_option maxRecDepth 100000 in
set_option maxHeartbeats 4000000 in
theorem bX9_messageAt {D : va_G} {cy : Nat → ClassId} {s0 : Nat} {p : Program} {l : Launch} {e : Env} {s : State} {m : MethodId} {args : Array Value} {below : List Frame} {meth : Method} {c : Code} (Y : CY D cy s0 l p s m args meth c cX9_messageAt 2 RX9 (some (.object "RaftRegistry$Message"))) (hn : meth.name = "messageAt") : ∀ (x0 : Nat) (x1 : Int32) (h : Hp) (r : (Option Nat ⊕ Nat) × Hp), fX9_messageAt x0 x1 h = some r → pX9_messageAt D cy s0 p l e s m args below meth c r x0 x1 h := by
  intro x0 x1 h ⟨rv, rh⟩ hf H locs ls cells slots hc hs hw hl
  unfold fX9_messageAt at hf
  have C := Y.1
  have hx := C.1
  have hb := C.2.1
  refine lv_iload_n hx hb dX9_messageAt_0 rfl (lv_at hl 1 rfl) ?_
  refine lv_if_lt (tgt := 15) hx hb dX9_messageAt_1 (by decide) (fun c1 => ?_) (fun c1 => ?_)
  · have hf := ip hf c1
    exact bX9_messageAt_15 Y hn _ _ hf _ _ _ _ _ (by omega) (by omega) hw (lv_sub hl [] rfl)
  · have hf := ie hf c1
    refine lv_iload_n hx hb dX9_messageAt_4 rfl (lv_at hl 1 rfl) ?_
    refine lv_aload_n hx hb dX9_messageAt_5 rfl (lv_at hl 0 rfl) ?_
    obtain ⟨z2, e2, hf⟩ := ob hf
    refine r_gR C hw e2 ck9 rfl (by decide) w239 dX9_messageAt_6 ?_
    cases z2 with
    | none =>
      have hf := on_n hf
      cases hf
    | some a3 =>
      have hf := on_s hf
      refine W.eq (g2 := F0 m 9 ls [.ref a3, .int x1]) rfl ?_
      obtain ⟨z4, e4, hf⟩ := ob hf
      refine r_gI C hw e4 ck3 rfl (by decide) w41 dX9_messageAt_9 ?_
      refine lv_icmp_lt (tgt := 25) hx hb dX9_messageAt_12 (by decide) (fun c5 => ?_) (fun c5 => ?_)
      · have hf := ip hf c5
        refine lv_aload_n hx hb dX9_messageAt_25 rfl (lv_at hl 0 rfl) ?_
        obtain ⟨z6, e6, hf⟩ := ob hf
        refine r_gR C hw e6 ck9 rfl (by decide) w239 dX9_messageAt_26 ?_
        cases z6 with
        | none =>
          have hf := on_n hf
          cases hf
        | some a7 =>
          have hf := on_s hf
          refine W.eq (g2 := F0 m 29 ls [.ref a7]) rfl ?_
          obtain ⟨z8, e8, hf⟩ := ob hf
          refine r_gR C hw e8 ck3 rfl (by decide) w39 dX9_messageAt_29 ?_
          cases z8 with
          | none =>
            have hf := on_n hf
            cases hf
          | some a9 =>
            have hf := on_s hf
            refine W.eq (g2 := F0 m 32 ls [.ref a9]) rfl ?_
            refine lv_iload_n hx hb dX9_messageAt_32 rfl (lv_at hl 1 rfl) ?_
            obtain ⟨z10, e10, hf⟩ := ob hf
            refine r_aald C hw e10 (by decide) rfl dX9_messageAt_33 ?_
            cases z10 with
            | none =>
              have hf := on_n hf
              refine W.eq (g2 := F0 m 34 ls [.null]) rfl ?_
              obtain ⟨rfl, rfl⟩ := sp hf
              exact x_aret Y hw rfl rfl (Or.inl ⟨_, rfl⟩) (by omega) (by omega) dX9_messageAt_34
            | some a11 =>
              have hf := on_s hf
              refine W.eq (g2 := F0 m 34 ls [.ref a11]) rfl ?_
              obtain ⟨rfl, rfl⟩ := sp hf
              exact x_aret Y hw rfl rfl (Or.inl ⟨_, rfl⟩) (by omega) (by omega) dX9_messageAt_34
      · have hf := ie hf c5
        exact bX9_messageAt_15 Y hn _ _ hf _ _ _ _ _ (by omega) (by omega) hw (lv_sub hl [] rfl)
theorem kXX9_messageAt : MK yX9_messageAt cX9_messageAt 2 (some (.object "RaftRegistry$Message")) 1 := ⟨w455, w1, by decide +kernel⟩
theorem mX9_messageAt {D : va_G} {cy : Nat → ClassId} {s0 : Nat} {l : Launch} {x0 : Nat} {x1 : Int32} {h : Hp} {v : (Option Nat ⊕ Nat)} {h1 : Hp} (hst : l.stackTraces = false) (hf : fX9_messageAt x0 x1 h = some (v, h1)) : XT D cy s0 l yX9_messageAt cX9_messageAt 2 (some (.object "RaftRegistry$Message")) rX9_messageAt [.ref x0, .int x1] h (rxR v) h1 := by
  refine XT.of hst (by decide +kernel) (Nat.le_of_ble_eq_true rfl) ?_
  intro p e s m below meth c H locs ls Y hn hw hl
  exact bX9_messageAt Y hn _ _ _ _ hf _ _ _ _ _ (Nat.le_of_ble_eq_true rfl) (Nat.le_of_ble_eq_true rfl) hw hl
abbrev rX9_deliver : Room := { frames := 7, cells := 22, slots := 138, locals := 164 }
abbrev pX9_deliver (D : va_G) (cy : Nat → ClassId) (s0 : Nat) (p : Program) (l : Launch) (e : Env) (s : State) (m : MethodId) (args : Array Value) (below : List Frame) (meth : Method) (c : Code) (r : (Int32 ⊕ Nat) × Hp) (x0 : Nat) (x1 : Int32) (h : Hp) : Prop := ∀ (H : Heap) (locs : List Loc) (ls : Array Slot) (cells slots : Nat), cells + (22) ≤ 22 → slots + (138) ≤ 138 → WS D cy s0 s h H locs → lv_has ls 5 [(0, .ref x0), (1, .int x1)] → W p l e rX9_deliver s m args below meth c H locs cells slots (vx_MQ below (QX D cy s0 (rxI r.1) r.2) (XX D cy s0 (rxI r.1) r.2) args s 22 138 (fun q => s0 ≤ q)) (F0 m 0 ls [])
set_option maxRecDepth 100000 in
set_option maxHeartbeats 4000000 in
theorem bX9_deliver {D : va_G} {cy : Nat → ClassId} {s0 : Nat} {p : Program} {l : Launch} {e : Env} {s : State} {m : MethodId} {args : Array Value} {below : List Frame} {meth : Method} {c : Code} (Y : CY D cy s0 l p s m args meth c cX9_deliver 5 RX9 (some .int)) (hn : meth.name = "deliver") : ∀ (x0 : Nat) (x1 : Int32) (h : Hp) (r : (Int32 ⊕ Nat) × Hp), fX9_deliver x0 x1 h = some r → pX9_deliver D cy s0 p l e s m args below meth c r x0 x1 h := by
  intro x0 x1 h ⟨rv, rh⟩ hf H locs ls cells slots hc hs hw hl
  unfold fX9_deliver at hf
  have C := Y.1
  have hx := C.1
  have hb := C.2.1
  refine lv_aload_n hx hb dX9_deliver_0 rfl (lv_at hl 0 rfl) ?_
  refine lv_iload_n hx hb dX9_deliver_1 rfl (lv_at hl 1 rfl) ?_
  obtain ⟨kb1, hf⟩ := ig hf
  rcases obx hf with ⟨z1, h1, e1, hf⟩ | ⟨q1, h1, e1, hf⟩
  · refine x_ret (v := (some (va_rf z1))) rfl hw (x_runV C Y.2.1 hw (mX9_messageAt Y.2.2.1 e1) kXX9_messageAt ck9 rfl kb1 w452 w454 v4 ⟨Nat.le_of_ble_eq_true rfl, Nat.le_of_ble_eq_true rfl⟩ rfl hl.1 (rest := []) rfl (Nat.le_of_ble_eq_true rfl) dX9_deliver_2 (mc := 1) (ms := 6) rfl rfl ⟨by show _ + 1 ≤ 22; omega, by show _ + 6 ≤ 138; omega⟩) (fun H locs hw => ?_)
    cases z1 with
    | none =>
      have hf := on_n hf
      cases hf
    | some a2 =>
      have hf := on_s hf
      refine W.eq (g2 := F0 m 5 ls [.ref a2]) rfl ?_
      refine lv_astore_n (lv' := [(2, .ref a2), (0, .ref x0), (1, .int x1)]) hx hb dX9_deliver_5 rfl hl (by decide) rfl (fun ls hl => ?_)
      refine lv_aload_n hx hb dX9_deliver_6 rfl (lv_at hl 1 rfl) ?_
      refine lv_aload_n hx hb dX9_deliver_7 rfl (lv_at hl 0 rfl) ?_
      obtain ⟨z3, e3, hf⟩ := ob hf
      refine r_gI C hw e3 ck4 rfl (by decide) w410 dX9_deliver_8 ?_
      obtain ⟨kb4, hf⟩ := ig hf
      rcases obx hf with ⟨z4, h4, e4, hf⟩ | ⟨q4, h4, e4, hf⟩
      · refine x_ret (v := (some (va_rf z4))) rfl hw (x_runV C Y.2.1 hw (mX9_nodeAt Y.2.2.1 e4) kXX9_nodeAt ck9 rfl kb4 w281 w283 v0 ⟨Nat.le_of_ble_eq_true rfl, Nat.le_of_ble_eq_true rfl⟩ rfl hl.1 (rest := []) rfl (Nat.le_of_ble_eq_true rfl) dX9_deliver_11 (mc := 1) (ms := 6) rfl rfl ⟨by show _ + 1 ≤ 22; omega, by show _ + 6 ≤ 138; omega⟩) (fun H locs hw => ?_)
        cases z4 with
        | none =>
          have hf := on_n hf
          cases hf
        | some a5 =>
          have hf := on_s hf
          refine W.eq (g2 := F0 m 14 ls [.ref a5]) rfl ?_
          refine lv_astore_n (lv' := [(3, .ref a5), (2, .ref a2), (0, .ref x0), (1, .int x1)]) hx hb dX9_deliver_14 rfl hl (by decide) rfl (fun ls hl => ?_)
          refine lv_aload_n hx hb dX9_deliver_15 rfl (lv_at hl 2 rfl) ?_
          obtain ⟨z6, e6, hf⟩ := ob hf
          refine r_gR C hw e6 ck9 rfl (by decide) w239 dX9_deliver_16 ?_
          cases z6 with
          | none =>
            have hf := on_n hf
            cases hf
          | some a7 =>
            have hf := on_s hf
            refine W.eq (g2 := F0 m 19 ls [.ref a7]) rfl ?_
            obtain ⟨z8, e8, hf⟩ := ob hf
            refine r_gI C hw e8 ck3 rfl (by decide) w41 dX9_deliver_19 ?_
            refine lv_istore (lv' := [(4, .int z8), (3, .ref a5), (2, .ref a2), (0, .ref x0), (1, .int x1)]) hx hb dX9_deliver_22 hl (by decide) rfl (fun ls hl => ?_)
            refine lv_aload_n hx hb dX9_deliver_24 rfl (lv_at hl 1 rfl) ?_
            refine lv_aload_n hx hb dX9_deliver_25 rfl (lv_at hl 2 rfl) ?_
            obtain ⟨kb9, hf⟩ := ig hf
            obtain ⟨z9, h9, e9, hf⟩ := ob2 hf
            refine r_callV C hw (mX5_receive e9) kXX5_receive ck5 rfl kb9 w457 w458 w459 ⟨Nat.le_of_ble_eq_true rfl, Nat.le_of_ble_eq_true rfl⟩ rfl hl.1 (rest := []) rfl (Nat.le_of_ble_eq_true rfl) dX9_deliver_26 (mc := 20) (ms := 126) rfl rfl ⟨by show _ + 20 ≤ 22; omega, by show _ + 126 ≤ 138; omega⟩ (fun H locs hw => ?_)
            refine W.eq (g2 := F0 m 29 ls []) rfl ?_
            refine lv_aload_n hx hb dX9_deliver_29 rfl (lv_at hl 3 rfl) ?_
            obtain ⟨z10, e10, hf⟩ := ob hf
            refine r_gR C hw e10 ck9 rfl (by decide) w239 dX9_deliver_30 ?_
            cases z10 with
            | none =>
              have hf := on_n hf
              cases hf
            | some a11 =>
              have hf := on_s hf
              refine W.eq (g2 := F0 m 33 ls [.ref a11]) rfl ?_
              obtain ⟨z12, e12, hf⟩ := ob hf
              refine r_gI C hw e12 ck3 rfl (by decide) w41 dX9_deliver_33 ?_
              refine lv_iload hx hb dX9_deliver_36 (lv_at hl 0 rfl) ?_
              refine lv_isub hx hb dX9_deliver_38 ?_
              obtain ⟨rfl, rfl⟩ := sp hf
              exact x_iret Y hw rfl rfl (by omega) (by omega) dX9_deliver_39
      · obtain ⟨rfl, rfl⟩ := sp hf
        exact x_thr (k := q4) rfl rfl Y hw (x_runV C Y.2.1 hw (mX9_nodeAt Y.2.2.1 e4) kXX9_nodeAt ck9 rfl kb4 w281 w283 v0 ⟨Nat.le_of_ble_eq_true rfl, Nat.le_of_ble_eq_true rfl⟩ rfl hl.1 (rest := []) rfl (Nat.le_of_ble_eq_true rfl) dX9_deliver_11 (mc := 1) (ms := 6) rfl rfl ⟨by show _ + 1 ≤ 22; omega, by show _ + 6 ≤ 138; omega⟩) (by omega) (by omega)
  · obtain ⟨rfl, rfl⟩ := sp hf
    exact x_thr (k := q1) rfl rfl Y hw (x_runV C Y.2.1 hw (mX9_messageAt Y.2.2.1 e1) kXX9_messageAt ck9 rfl kb1 w452 w454 v4 ⟨Nat.le_of_ble_eq_true rfl, Nat.le_of_ble_eq_true rfl⟩ rfl hl.1 (rest := []) rfl (Nat.le_of_ble_eq_true rfl) dX9_deliver_2 (mc := 1) (ms := 6) rfl rfl ⟨by show _ + 1 ≤ 22; omega, by show _ + 6 ≤ 138; omega⟩) (by omega) (by omega)
theorem kXX9_deliver : MK yX9_deliver cX9_deliver 5 (some .int) 1 := ⟨w451, w1, by decide +kernel⟩
theorem mX9_deliver {D : va_G} {cy : Nat → ClassId} {s0 : Nat} {l : Launch} {x0 : Nat} {x1 : Int32} {h : Hp} {v : (Int32 ⊕ Nat)} {h1 : Hp} (hst : l.stackTraces = false) (hf : fX9_deliver x0 x1 h = some (v, h1)) : XT D cy s0 l yX9_deliver cX9_deliver 5 (some .int) rX9_deliver [.ref x0, .int x1] h (rxI v) h1 := by
  refine XT.of hst (by decide +kernel) (Nat.le_of_ble_eq_true rfl) ?_
  intro p e s m below meth c H locs ls Y hn hw hl
  exact bX9_deliver Y hn _ _ _ _ hf _ _ _ _ _ (Nat.le_of_ble_eq_true rfl) (Nat.le_of_ble_eq_true rfl) hw hl
abbrev rX9_digest : Room := { frames := 7, cells := 2, slots := 12, locals := 113 }
abbrev pX9_digest (D : va_G) (cy : Nat → ClassId) (s0 : Nat) (p : Program) (l : Launch) (e : Env) (s : State) (m : MethodId) (args : Array Value) (below : List Frame) (meth : Method) (c : Code) (r : (Int64 ⊕ Nat) × Hp) (x0 : Nat) (x1 : Int32) (h : Hp) : Prop := ∀ (H : Heap) (locs : List Loc) (ls : Array Slot) (cells slots : Nat), cells + (2) ≤ 2 → slots + (12) ≤ 12 → WS D cy s0 s h H locs → lv_has ls 3 [(0, .ref x0), (1, .int x1)] → W p l e rX9_digest s m args below meth c H locs cells slots (vx_MQ below (QX D cy s0 (rxJ r.1) r.2) (XX D cy s0 (rxJ r.1) r.2) args s 2 12 (fun q => s0 ≤ q)) (F0 m 0 ls [])
set_option maxRecDepth 100000 in
set_option maxHeartbeats 4000000 in
theorem bX9_digest {D : va_G} {cy : Nat → ClassId} {s0 : Nat} {p : Program} {l : Launch} {e : Env} {s : State} {m : MethodId} {args : Array Value} {below : List Frame} {meth : Method} {c : Code} (Y : CY D cy s0 l p s m args meth c cX9_digest 3 RX9 (some .long)) (hn : meth.name = "digest") : ∀ (x0 : Nat) (x1 : Int32) (h : Hp) (r : (Int64 ⊕ Nat) × Hp), fX9_digest x0 x1 h = some r → pX9_digest D cy s0 p l e s m args below meth c r x0 x1 h := by
  intro x0 x1 h ⟨rv, rh⟩ hf H locs ls cells slots hc hs hw hl
  unfold fX9_digest at hf
  have C := Y.1
  have hx := C.1
  have hb := C.2.1
  refine lv_aload_n hx hb dX9_digest_0 rfl (lv_at hl 0 rfl) ?_
  refine lv_iload_n hx hb dX9_digest_1 rfl (lv_at hl 1 rfl) ?_
  obtain ⟨kb1, hf⟩ := ig hf
  rcases obx hf with ⟨z1, h1, e1, hf⟩ | ⟨q1, h1, e1, hf⟩
  · refine x_ret (v := (some (va_rf z1))) rfl hw (x_runV C Y.2.1 hw (mX9_nodeAt Y.2.2.1 e1) kXX9_nodeAt ck9 rfl kb1 w281 w283 v0 ⟨Nat.le_of_ble_eq_true rfl, Nat.le_of_ble_eq_true rfl⟩ rfl hl.1 (rest := []) rfl (Nat.le_of_ble_eq_true rfl) dX9_digest_2 (mc := 1) (ms := 6) rfl rfl ⟨by show _ + 1 ≤ 2; omega, by show _ + 6 ≤ 12; omega⟩) (fun H locs hw => ?_)
    cases z1 with
    | none =>
      have hf := on_n hf
      cases hf
    | some a2 =>
      have hf := on_s hf
      refine W.eq (g2 := F0 m 5 ls [.ref a2]) rfl ?_
      refine lv_astore_n (lv' := [(2, .ref a2), (0, .ref x0), (1, .int x1)]) hx hb dX9_digest_5 rfl hl (by decide) rfl (fun ls hl => ?_)
      refine lv_aload_n hx hb dX9_digest_6 rfl (lv_at hl 0 rfl) ?_
      rcases obx hf with ⟨z3, h3, e3, hf⟩ | ⟨q3, h3, e3, hf⟩
      · refine x_ret (v := none) rfl hw (x_runS C Y.2.1 hw (mX9_requireUp Y.2.2.1 e3) kXX9_requireUp w783 w784 ⟨Nat.le_of_ble_eq_true rfl, Nat.le_of_ble_eq_true rfl⟩ rfl hl.1 (rest := []) rfl (Nat.le_of_ble_eq_true rfl) dX9_digest_7 (mc := 1) (ms := 6) rfl rfl ⟨by show _ + 1 ≤ 2; omega, by show _ + 6 ≤ 12; omega⟩) (fun H locs hw => ?_)
        refine W.eq (g2 := F0 m 10 ls []) rfl ?_
        refine lv_aload_n hx hb dX9_digest_10 rfl (lv_at hl 0 rfl) ?_
        obtain ⟨z4, e4, hf⟩ := ob hf
        refine r_gR C hw e4 ck5 rfl (by decide) w192 dX9_digest_11 ?_
        cases z4 with
        | none =>
          have hf := on_n hf
          cases hf
        | some a5 =>
          have hf := on_s hf
          refine W.eq (g2 := F0 m 14 ls [.ref a5]) rfl ?_
          obtain ⟨kb6, hf⟩ := ig hf
          obtain ⟨z6, h6, e6, hf⟩ := ob2 hf
          refine r_callV C hw (mX7_fingerprint e6) kXX7_fingerprint ck7 rfl kb6 w948 w949 w950 ⟨Nat.le_of_ble_eq_true rfl, Nat.le_of_ble_eq_true rfl⟩ rfl hl.1 (rest := []) rfl (Nat.le_of_ble_eq_true rfl) dX9_digest_14 (mc := 0) (ms := 0) rfl rfl ⟨by show _ + 0 ≤ 2; omega, by show _ + 0 ≤ 12; omega⟩ (fun H locs hw => ?_)
          refine W.eq (g2 := F0 m 17 ls [.long z6]) rfl ?_
          obtain ⟨rfl, rfl⟩ := sp hf
          exact x_lret Y hw rfl (by omega) (by omega) dX9_digest_17
      · obtain ⟨rfl, rfl⟩ := sp hf
        exact x_thr (k := q3) rfl rfl Y hw (x_runS C Y.2.1 hw (mX9_requireUp Y.2.2.1 e3) kXX9_requireUp w783 w784 ⟨Nat.le_of_ble_eq_true rfl, Nat.le_of_ble_eq_true rfl⟩ rfl hl.1 (rest := []) rfl (Nat.le_of_ble_eq_true rfl) dX9_digest_7 (mc := 1) (ms := 6) rfl rfl ⟨by show _ + 1 ≤ 2; omega, by show _ + 6 ≤ 12; omega⟩) (by omega) (by omega)
  · obtain ⟨rfl, rfl⟩ := sp hf
    exact x_thr (k := q1) rfl rfl Y hw (x_runV C Y.2.1 hw (mX9_nodeAt Y.2.2.1 e1) kXX9_nodeAt ck9 rfl kb1 w281 w283 v0 ⟨Nat.le_of_ble_eq_true rfl, Nat.le_of_ble_eq_true rfl⟩ rfl hl.1 (rest := []) rfl (Nat.le_of_ble_eq_true rfl) dX9_digest_2 (mc := 1) (ms := 6) rfl rfl ⟨by show _ + 1 ≤ 2; omega, by show _ + 6 ≤ 12; omega⟩) (by omega) (by omega)
theorem kXX9_digest : MK yX9_digest cX9_digest 3 (some .long) 1 := ⟨w947, w1, by decide +kernel⟩
theorem mX9_digest {D : va_G} {cy : Nat → ClassId} {s0 : Nat} {l : Launch} {x0 : Nat} {x1 : Int32} {h : Hp} {v : (Int64 ⊕ Nat)} {h1 : Hp} (hst : l.stackTraces = false) (hf : fX9_digest x0 x1 h = some (v, h1)) : XT D cy s0 l yX9_digest cX9_digest 3 (some .long) rX9_digest [.ref x0, .int x1] h (rxJ v) h1 := by
  refine XT.of hst (by decide +kernel) (Nat.le_of_ble_eq_true rfl) ?_
  intro p e s m below meth c H locs ls Y hn hw hl
  exact bX9_digest Y hn _ _ _ _ hf _ _ _ _ _ (Nat.le_of_ble_eq_true rfl) (Nat.le_of_ble_eq_true rfl) hw hl
abbrev rX9_entry : Room := { frames := 7, cells := 1, slots := 6, locals := 113 }
abbrev pX9_entry (D : va_G) (cy : Nat → ClassId) (s0 : Nat) (p : Program) (l : Launch) (e : Env) (s : State) (m : MethodId) (args : Array Value) (below : List Frame) (meth : Method) (c : Code) (r : (Int32 ⊕ Nat) × Hp) (x0 : Nat) (x1 : Int32) (x2 : Int32) (h : Hp) : Prop := ∀ (H : Heap) (locs : List Loc) (ls : Array Slot) (cells slots : Nat), cells + (1) ≤ 1 → slots + (6) ≤ 6 → WS D cy s0 s h H locs → lv_has ls 3 [(0, .ref x0), (1, .int x1), (2, .int x2)] → W p l e rX9_entry s m args below meth c H locs cells slots (vx_MQ below (QX D cy s0 (rxI r.1) r.2) (XX D cy s0 (rxI r.1) r.2) args s 1 6 (fun q => s0 ≤ q)) (F0 m 0 ls [])
set_option maxRecDepth 100000 in
set_option maxHeartbeats 4000000 in
theorem bX9_entry {D : va_G} {cy : Nat → ClassId} {s0 : Nat} {p : Program} {l : Launch} {e : Env} {s : State} {m : MethodId} {args : Array Value} {below : List Frame} {meth : Method} {c : Code} (Y : CY D cy s0 l p s m args meth c cX9_entry 3 RX9 (some .int)) (hn : meth.name = "entry") : ∀ (x0 : Nat) (x1 : Int32) (x2 : Int32) (h : Hp) (r : (Int32 ⊕ Nat) × Hp), fX9_entry x0 x1 x2 h = some r → pX9_entry D cy s0 p l e s m args below meth c r x0 x1 x2 h := by
  intro x0 x1 x2 h ⟨rv, rh⟩ hf H locs ls cells slots hc hs hw hl
  unfold fX9_entry at hf
  have C := Y.1
  have hx := C.1
  have hb := C.2.1
  refine lv_aload_n hx hb dX9_entry_0 rfl (lv_at hl 0 rfl) ?_
  refine lv_iload_n hx hb dX9_entry_1 rfl (lv_at hl 1 rfl) ?_
  obtain ⟨kb1, hf⟩ := ig hf
  rcases obx hf with ⟨z1, h1, e1, hf⟩ | ⟨q1, h1, e1, hf⟩
  · refine x_ret (v := (some (va_rf z1))) rfl hw (x_runV C Y.2.1 hw (mX9_nodeAt Y.2.2.1 e1) kXX9_nodeAt ck9 rfl kb1 w281 w283 v0 ⟨Nat.le_of_ble_eq_true rfl, Nat.le_of_ble_eq_true rfl⟩ rfl hl.1 (rest := []) rfl (Nat.le_of_ble_eq_true rfl) dX9_entry_2 (mc := 1) (ms := 6) rfl rfl ⟨by show _ + 1 ≤ 1; omega, by show _ + 6 ≤ 6; omega⟩) (fun H locs hw => ?_)
    cases z1 with
    | none =>
      have hf := on_n hf
      cases hf
    | some a2 =>
      have hf := on_s hf
      refine W.eq (g2 := F0 m 5 ls [.ref a2]) rfl ?_
      obtain ⟨z3, e3, hf⟩ := ob hf
      refine r_gR C hw e3 ck5 rfl (by decide) w190 dX9_entry_5 ?_
      cases z3 with
      | none =>
        have hf := on_n hf
        cases hf
      | some a4 =>
        have hf := on_s hf
        refine W.eq (g2 := F0 m 8 ls [.ref a4]) rfl ?_
        refine lv_iload_n hx hb dX9_entry_8 rfl (lv_at hl 2 rfl) ?_
        obtain ⟨kb5, hf⟩ := ig hf
        obtain ⟨z5, h5, e5, hf⟩ := ob2 hf
        refine r_callV C hw (mX1_termAt e5) kXX1_termAt ck1 rfl kb5 w940 w391 w392 ⟨Nat.le_of_ble_eq_true rfl, Nat.le_of_ble_eq_true rfl⟩ rfl hl.1 (rest := []) rfl (Nat.le_of_ble_eq_true rfl) dX9_entry_9 (mc := 0) (ms := 0) rfl rfl ⟨by show _ + 0 ≤ 1; omega, by show _ + 0 ≤ 6; omega⟩ (fun H locs hw => ?_)
        refine W.eq (g2 := F0 m 12 ls [.int z5]) rfl ?_
        obtain ⟨rfl, rfl⟩ := sp hf
        exact x_iret Y hw rfl rfl (by omega) (by omega) dX9_entry_12
  · obtain ⟨rfl, rfl⟩ := sp hf
    exact x_thr (k := q1) rfl rfl Y hw (x_runV C Y.2.1 hw (mX9_nodeAt Y.2.2.1 e1) kXX9_nodeAt ck9 rfl kb1 w281 w283 v0 ⟨Nat.le_of_ble_eq_true rfl, Nat.le_of_ble_eq_true rfl⟩ rfl hl.1 (rest := []) rfl (Nat.le_of_ble_eq_true rfl) dX9_entry_2 (mc := 1) (ms := 6) rfl rfl ⟨by show _ + 1 ≤ 1; omega, by show _ + 6 ≤ 6; omega⟩) (by omega) (by omega)
theorem kXX9_entry : MK yX9_entry cX9_entry 3 (some .int) 2 := ⟨w939, w1, by decide +kernel⟩
theorem mX9_entry {D : va_G} {cy : Nat → ClassId} {s0 : Nat} {l : Launch} {x0 : Nat} {x1 : Int32} {x2 : Int32} {h : Hp} {v : (Int32 ⊕ Nat)} {h1 : Hp} (hst : l.stackTraces = false) (hf : fX9_entry x0 x1 x2 h = some (v, h1)) : XT D cy s0 l yX9_entry cX9_entry 3 (some .int) rX9_entry [.ref x0, .int x1, .int x2] h (rxI v) h1 := by
  refine XT.of hst (by decide +kernel) (Nat.le_of_ble_eq_true rfl) ?_
  intro p e s m below meth c H locs ls Y hn hw hl
  exact bX9_entry Y hn _ _ _ _ _ hf _ _ _ _ _ (Nat.le_of_ble_eq_true rfl) (Nat.le_of_ble_eq_true rfl) hw hl
abbrev rX9_event : Room := { frames := 7, cells := 3, slots := 18, locals := 113 }
abbrev pX9_event_62 (D : va_G) (cy : Nat → ClassId) (s0 : Nat) (p : Program) (l : Launch) (e : Env) (s : State) (m : MethodId) (args : Array Value) (below : List Frame) (meth : Method) (c : Code) (r : (Int64 ⊕ Nat) × Hp)  (h : Hp) : Prop := ∀ (H : Heap) (locs : List Loc) (ls : Array Slot) (cells slots : Nat), cells + (1) ≤ 3 → slots + (6) ≤ 18 → WS D cy s0 s h H locs → lv_has ls 7 [] → W p l e rX9_event s m args below meth c H locs cells slots (vx_MQ below (QX D cy s0 (rxJ r.1) r.2) (XX D cy s0 (rxJ r.1) r.2) args s 3 18 (fun q => s0 ≤ q)) (F0 m 62 ls [])
abbrev pX9_event (D : va_G) (cy : Nat → ClassId) (s0 : Nat) (p : Program) (l : Launch) (e : Env) (s : State) (m : MethodId) (args : Array Value) (below : List Frame) (meth : Method) (c : Code) (r : (Int64 ⊕ Nat) × Hp) (x0 : Nat) (x1 : Int32) (x2 : Int32) (x3 : Int32) (h : Hp) : Prop := ∀ (H : Heap) (locs : List Loc) (ls : Array Slot) (cells slots : Nat), cells + (3) ≤ 3 → slots + (18) ≤ 18 → WS D cy s0 s h H locs → lv_has ls 7 [(0, .ref x0), (1, .int x1), (2, .int x2), (3, .int x3)] → W p l e rX9_event s m args below meth c H locs cells slots (vx_MQ below (QX D cy s0 (rxJ r.1) r.2) (XX D cy s0 (rxJ r.1) r.2) args s 3 18 (fun q => s0 ≤ q)) (F0 m 0 ls [])
set_option maxRecDepth 100000 in
set_option maxHeartbeats 4000000 in
theorem bX9_event_62 {D : va_G} {cy : Nat → ClassId} {s0 : Nat} {p : Program} {l : Launch} {e : Env} {s : State} {m : MethodId} {args : Array Value} {below : List Frame} {meth : Method} {c : Code} (Y : CY D cy s0 l p s m args meth c cX9_event 7 RX9 (some .long)) (hn : meth.name = "event") : ∀  (h : Hp) (r : (Int64 ⊕ Nat) × Hp), fX9_event_62  h = some r → pX9_event_62 D cy s0 p l e s m args below meth c r  h := by
  intro  h ⟨rv, rh⟩ hf H locs ls cells slots hc hs hw hl
  unfold fX9_event_62 at hf
  have C := Y.1
  have hx := C.1
  have hb := C.2.1
  obtain ⟨rfl, rfl⟩ := sp hf
  exact x_throw Y hw (k := 0) rfl xk0_211_215 (by decide : (213, "no such EVENT") ∈ STR) hl.1 dX9_event_62 dX9_event_65 dX9_event_66 dX9_event_68 dX9_event_71 (Nat.le_of_ble_eq_true rfl) (Nat.le_of_ble_eq_true rfl) (by show _ + 1 ≤ 3; omega) (by show _ + 6 ≤ 18; omega) (by omega) (by omega)
set_option maxRecDepth 100000 in
set_option maxHeartbeats 4000000 in
theorem bX9_event {D : va_G} {cy : Nat → ClassId} {s0 : Nat} {p : Program} {l : Launch} {e : Env} {s : State} {m : MethodId} {args : Array Value} {below : List Frame} {meth : Method} {c : Code} (Y : CY D cy s0 l p s m args meth c cX9_event 7 RX9 (some .long)) (hn : meth.name = "event") : ∀ (x0 : Nat) (x1 : Int32) (x2 : Int32) (x3 : Int32) (h : Hp) (r : (Int64 ⊕ Nat) × Hp), fX9_event x0 x1 x2 x3 h = some r → pX9_event D cy s0 p l e s m args below meth c r x0 x1 x2 x3 h := by
  intro x0 x1 x2 x3 h ⟨rv, rh⟩ hf H locs ls cells slots hc hs hw hl
  unfold fX9_event at hf
  have C := Y.1
  have hx := C.1
  have hb := C.2.1
  refine lv_aload_n hx hb dX9_event_0 rfl (lv_at hl 0 rfl) ?_
  refine lv_iload_n hx hb dX9_event_1 rfl (lv_at hl 1 rfl) ?_
  obtain ⟨kb1, hf⟩ := ig hf
  rcases obx hf with ⟨z1, h1, e1, hf⟩ | ⟨q1, h1, e1, hf⟩
  · refine x_ret (v := (some (va_rf z1))) rfl hw (x_runV C Y.2.1 hw (mX9_nodeAt Y.2.2.1 e1) kXX9_nodeAt ck9 rfl kb1 w281 w283 v0 ⟨Nat.le_of_ble_eq_true rfl, Nat.le_of_ble_eq_true rfl⟩ rfl hl.1 (rest := []) rfl (Nat.le_of_ble_eq_true rfl) dX9_event_2 (mc := 1) (ms := 6) rfl rfl ⟨by show _ + 1 ≤ 3; omega, by show _ + 6 ≤ 18; omega⟩) (fun H locs hw => ?_)
    cases z1 with
    | none =>
      have hf := on_n hf
      cases hf
    | some a2 =>
      have hf := on_s hf
      refine W.eq (g2 := F0 m 5 ls [.ref a2]) rfl ?_
      refine lv_astore (lv' := [(4, .ref a2), (0, .ref x0), (1, .int x1), (2, .int x2), (3, .int x3)]) hx hb dX9_event_5 hl (by decide) rfl (fun ls hl => ?_)
      refine lv_aload hx hb dX9_event_7 (lv_at hl 0 rfl) ?_
      rcases obx hf with ⟨z3, h3, e3, hf⟩ | ⟨q3, h3, e3, hf⟩
      · refine x_ret (v := none) rfl hw (x_runS C Y.2.1 hw (mX9_requireUp Y.2.2.1 e3) kXX9_requireUp w783 w784 ⟨Nat.le_of_ble_eq_true rfl, Nat.le_of_ble_eq_true rfl⟩ rfl hl.1 (rest := []) rfl (Nat.le_of_ble_eq_true rfl) dX9_event_9 (mc := 1) (ms := 6) rfl rfl ⟨by show _ + 1 ≤ 3; omega, by show _ + 6 ≤ 18; omega⟩) (fun H locs hw => ?_)
        refine W.eq (g2 := F0 m 12 ls []) rfl ?_
        refine lv_aload hx hb dX9_event_12 (lv_at hl 0 rfl) ?_
        obtain ⟨z4, e4, hf⟩ := ob hf
        refine r_gR C hw e4 ck5 rfl (by decide) w192 dX9_event_14 ?_
        cases z4 with
        | none =>
          have hf := on_n hf
          cases hf
        | some a5 =>
          have hf := on_s hf
          refine W.eq (g2 := F0 m 17 ls [.ref a5]) rfl ?_
          refine lv_astore (lv' := [(5, .ref a5), (4, .ref a2), (0, .ref x0), (1, .int x1), (2, .int x2), (3, .int x3)]) hx hb dX9_event_17 hl (by decide) rfl (fun ls hl => ?_)
          refine lv_iload_n hx hb dX9_event_19 rfl (lv_at hl 4 rfl) ?_
          refine lv_aload hx hb dX9_event_20 (lv_at hl 0 rfl) ?_
          obtain ⟨z6, e6, hf⟩ := ob hf
          refine r_gI C hw e6 ck7 rfl (by decide) w81 dX9_event_22 ?_
          refine lv_icmp_gt (tgt := 38) hx hb dX9_event_25 (by decide) (fun c7 => ?_) (fun c7 => ?_)
          · have hf := ip hf c7
            refine lv_aload hx hb dX9_event_38 (lv_at hl 0 rfl) ?_
            refine lv_iload_n hx hb dX9_event_40 rfl (lv_at hl 4 rfl) ?_
            obtain ⟨kb8, hf⟩ := ig hf
            obtain ⟨z8, h8, e8, hf⟩ := ob2 hf
            refine r_callV C hw (mX7_firstEventFrom e8) kXX7_firstEventFrom ck7 rfl kb8 w898 w878 w879 ⟨Nat.le_of_ble_eq_true rfl, Nat.le_of_ble_eq_true rfl⟩ rfl hl.1 (rest := []) rfl (Nat.le_of_ble_eq_true rfl) dX9_event_41 (mc := 0) (ms := 0) rfl rfl ⟨by show _ + 0 ≤ 3; omega, by show _ + 0 ≤ 18; omega⟩ (fun H locs hw => ?_)
            refine W.eq (g2 := F0 m 44 ls [.int z8]) rfl ?_
            refine lv_istore (lv' := [(6, .int z8), (5, .ref a5), (4, .ref a2), (0, .ref x0), (1, .int x1), (2, .int x2), (3, .int x3)]) hx hb dX9_event_44 hl (by decide) rfl (fun ls hl => ?_)
            refine lv_iload_n hx hb dX9_event_46 rfl (lv_at hl 6 rfl) ?_
            refine lv_if_lt (tgt := 62) hx hb dX9_event_47 (by decide) (fun c9 => ?_) (fun c9 => ?_)
            · have hf := ip hf c9
              exact bX9_event_62 Y hn _ _ hf _ _ _ _ _ (by omega) (by omega) hw (lv_sub hl [] rfl)
            · have hf := ie hf c9
              refine lv_iload_n hx hb dX9_event_50 rfl (lv_at hl 6 rfl) ?_
              refine lv_aload hx hb dX9_event_51 (lv_at hl 1 rfl) ?_
              obtain ⟨z10, e10, hf⟩ := ob hf
              refine r_gI C hw e10 ck7 rfl (by decide) w85 dX9_event_53 ?_
              refine lv_iload hx hb dX9_event_56 (lv_at hl 0 rfl) ?_
              refine lv_isub hx hb dX9_event_58 ?_
              refine lv_icmp_lt (tgt := 72) hx hb dX9_event_59 (by decide) (fun c11 => ?_) (fun c11 => ?_)
              · have hf := ip hf c11
                refine lv_aload hx hb dX9_event_72 (lv_at hl 1 rfl) ?_
                obtain ⟨z12, e12, hf⟩ := ob hf
                refine r_gR C hw e12 ck7 rfl (by decide) w83 dX9_event_74 ?_
                cases z12 with
                | none =>
                  have hf := on_n hf
                  cases hf
                | some a13 =>
                  have hf := on_s hf
                  refine W.eq (g2 := F0 m 77 ls [.ref a13]) rfl ?_
                  refine lv_iload hx hb dX9_event_77 (lv_at hl 0 rfl) ?_
                  refine lv_iload_n hx hb dX9_event_79 rfl (lv_at hl 6 rfl) ?_
                  refine lv_iadd hx hb dX9_event_80 ?_
                  obtain ⟨z14, e14, hf⟩ := ob hf
                  refine r_lald C hw e14 dX9_event_81 ?_
                  obtain ⟨rfl, rfl⟩ := sp hf
                  exact x_lret Y hw rfl (by omega) (by omega) dX9_event_82
              · have hf := ie hf c11
                exact bX9_event_62 Y hn _ _ hf _ _ _ _ _ (by omega) (by omega) hw (lv_sub hl [] rfl)
          · have hf := ie hf c7
            obtain ⟨rfl, rfl⟩ := sp hf
            exact x_throw Y hw (k := 2) rfl xk2_99_103 (by decide : (202, "r is not above COMPACTED") ∈ STR) hl.1 dX9_event_28 dX9_event_31 dX9_event_32 dX9_event_34 dX9_event_37 (Nat.le_of_ble_eq_true rfl) (Nat.le_of_ble_eq_true rfl) (by show _ + 1 ≤ 3; omega) (by show _ + 6 ≤ 18; omega) (by omega) (by omega)
      · obtain ⟨rfl, rfl⟩ := sp hf
        exact x_thr (k := q3) rfl rfl Y hw (x_runS C Y.2.1 hw (mX9_requireUp Y.2.2.1 e3) kXX9_requireUp w783 w784 ⟨Nat.le_of_ble_eq_true rfl, Nat.le_of_ble_eq_true rfl⟩ rfl hl.1 (rest := []) rfl (Nat.le_of_ble_eq_true rfl) dX9_event_9 (mc := 1) (ms := 6) rfl rfl ⟨by show _ + 1 ≤ 3; omega, by show _ + 6 ≤ 18; omega⟩) (by omega) (by omega)
  · obtain ⟨rfl, rfl⟩ := sp hf
    exact x_thr (k := q1) rfl rfl Y hw (x_runV C Y.2.1 hw (mX9_nodeAt Y.2.2.1 e1) kXX9_nodeAt ck9 rfl kb1 w281 w283 v0 ⟨Nat.le_of_ble_eq_true rfl, Nat.le_of_ble_eq_true rfl⟩ rfl hl.1 (rest := []) rfl (Nat.le_of_ble_eq_true rfl) dX9_event_2 (mc := 1) (ms := 6) rfl rfl ⟨by show _ + 1 ≤ 3; omega, by show _ + 6 ≤ 18; omega⟩) (by omega) (by omega)
theorem kXX9_event : MK yX9_event cX9_event 7 (some .long) 3 := ⟨w896, w1, by decide +kernel⟩
theorem mX9_event {D : va_G} {cy : Nat → ClassId} {s0 : Nat} {l : Launch} {x0 : Nat} {x1 : Int32} {x2 : Int32} {x3 : Int32} {h : Hp} {v : (Int64 ⊕ Nat)} {h1 : Hp} (hst : l.stackTraces = false) (hf : fX9_event x0 x1 x2 x3 h = some (v, h1)) : XT D cy s0 l yX9_event cX9_event 7 (some .long) rX9_event [.ref x0, .int x1, .int x2, .int x3] h (rxJ v) h1 := by
  refine XT.of hst (by decide +kernel) (Nat.le_of_ble_eq_true rfl) ?_
  intro p e s m below meth c H locs ls Y hn hw hl
  exact bX9_event Y hn _ _ _ _ _ _ hf _ _ _ _ _ (Nat.le_of_ble_eq_true rfl) (Nat.le_of_ble_eq_true rfl) hw hl
abbrev rX9_expire : Room := { frames := 7, cells := 10, slots := 87, locals := 113 }
abbrev pX9_expire_21 (D : va_G) (cy : Nat → ClassId) (s0 : Nat) (p : Program) (l : Launch) (e : Env) (s : State) (m : MethodId) (args : Array Value) (below : List Frame) (meth : Method) (c : Code) (r : (Int32 ⊕ Nat) × Hp)  (h : Hp) : Prop := ∀ (H : Heap) (locs : List Loc) (ls : Array Slot) (cells slots : Nat), cells + (1) ≤ 10 → slots + (6) ≤ 87 → WS D cy s0 s h H locs → lv_has ls 4 [] → W p l e rX9_expire s m args below meth c H locs cells slots (vx_MQ below (QX D cy s0 (rxI r.1) r.2) (XX D cy s0 (rxI r.1) r.2) args s 10 87 (fun q => s0 ≤ q)) (F0 m 21 ls [])
abbrev pX9_expire (D : va_G) (cy : Nat → ClassId) (s0 : Nat) (p : Program) (l : Launch) (e : Env) (s : State) (m : MethodId) (args : Array Value) (below : List Frame) (meth : Method) (c : Code) (r : (Int32 ⊕ Nat) × Hp) (x0 : Nat) (x1 : Int32) (h : Hp) : Prop := ∀ (H : Heap) (locs : List Loc) (ls : Array Slot) (cells slots : Nat), cells + (10) ≤ 10 → slots + (87) ≤ 87 → WS D cy s0 s h H locs → lv_has ls 4 [(0, .ref x0), (1, .int x1)] → W p l e rX9_expire s m args below meth c H locs cells slots (vx_MQ below (QX D cy s0 (rxI r.1) r.2) (XX D cy s0 (rxI r.1) r.2) args s 10 87 (fun q => s0 ≤ q)) (F0 m 0 ls [])
set_option maxRecDepth 100000 in
set_option maxHeartbeats 4000000 in
theorem bX9_expire_21 {D : va_G} {cy : Nat → ClassId} {s0 : Nat} {p : Program} {l : Launch} {e : Env} {s : State} {m : MethodId} {args : Array Value} {below : List Frame} {meth : Method} {c : Code} (Y : CY D cy s0 l p s m args meth c cX9_expire 4 RX9 (some .int)) (hn : meth.name = "expire") : ∀  (h : Hp) (r : (Int32 ⊕ Nat) × Hp), fX9_expire_21  h = some r → pX9_expire_21 D cy s0 p l e s m args below meth c r  h := by
  intro  h ⟨rv, rh⟩ hf H locs ls cells slots hc hs hw hl
  unfold fX9_expire_21 at hf
  have C := Y.1
  have hx := C.1
  have hb := C.2.1
  obtain ⟨rfl, rfl⟩ := sp hf
  exact x_throw Y hw (k := 1) rfl xk1_52_56 (by decide : (54, "the NODE is down or leader") ∈ STR) hl.1 dX9_expire_21 dX9_expire_24 dX9_expire_25 dX9_expire_27 dX9_expire_30 (Nat.le_of_ble_eq_true rfl) (Nat.le_of_ble_eq_true rfl) (by show _ + 1 ≤ 10; omega) (by show _ + 6 ≤ 87; omega) (by omega) (by omega)
set_option maxRecDepth 100000 in
set_option maxHeartbeats 4000000 in
theorem bX9_expire {D : va_G} {cy : Nat → ClassId} {s0 : Nat} {p : Program} {l : Launch} {e : Env} {s : State} {m : MethodId} {args : Array Value} {below : List Frame} {meth : Method} {c : Code} (Y : CY D cy s0 l p s m args meth c cX9_expire 4 RX9 (some .int)) (hn : meth.name = "expire") : ∀ (x0 : Nat) (x1 : Int32) (h : Hp) (r : (Int32 ⊕ Nat) × Hp), fX9_expire x0 x1 h = some r → pX9_expire D cy s0 p l e s m args below meth c r x0 x1 h := by
  intro x0 x1 h ⟨rv, rh⟩ hf H locs ls cells slots hc hs hw hl
  unfold fX9_expire at hf
  have C := Y.1
  have hx := C.1
  have hb := C.2.1
  refine lv_aload_n hx hb dX9_expire_0 rfl (lv_at hl 0 rfl) ?_
  refine lv_iload_n hx hb dX9_expire_1 rfl (lv_at hl 1 rfl) ?_
  obtain ⟨kb1, hf⟩ := ig hf
  rcases obx hf with ⟨z1, h1, e1, hf⟩ | ⟨q1, h1, e1, hf⟩
  · refine x_ret (v := (some (va_rf z1))) rfl hw (x_runV C Y.2.1 hw (mX9_nodeAt Y.2.2.1 e1) kXX9_nodeAt ck9 rfl kb1 w281 w283 v0 ⟨Nat.le_of_ble_eq_true rfl, Nat.le_of_ble_eq_true rfl⟩ rfl hl.1 (rest := []) rfl (Nat.le_of_ble_eq_true rfl) dX9_expire_2 (mc := 1) (ms := 6) rfl rfl ⟨by show _ + 1 ≤ 10; omega, by show _ + 6 ≤ 87; omega⟩) (fun H locs hw => ?_)
    cases z1 with
    | none =>
      have hf := on_n hf
      cases hf
    | some a2 =>
      have hf := on_s hf
      refine W.eq (g2 := F0 m 5 ls [.ref a2]) rfl ?_
      refine lv_astore_n (lv' := [(2, .ref a2), (0, .ref x0), (1, .int x1)]) hx hb dX9_expire_5 rfl hl (by decide) rfl (fun ls hl => ?_)
      refine lv_aload_n hx hb dX9_expire_6 rfl (lv_at hl 0 rfl) ?_
      obtain ⟨z3, e3, hf⟩ := ob hf
      refine r_gI C hw e3 ck5 rfl (by decide) w196 dX9_expire_7 ?_
      refine lv_if_eq (tgt := 21) hx hb dX9_expire_10 (by decide) (fun c4 => ?_) (fun c4 => ?_)
      · have hf := ip hf c4
        exact bX9_expire_21 Y hn _ _ hf _ _ _ _ _ (by omega) (by omega) hw (lv_sub hl [] rfl)
      · have hf := ie hf c4
        refine lv_aload_n hx hb dX9_expire_13 rfl (lv_at hl 0 rfl) ?_
        obtain ⟨z5, e5, hf⟩ := ob hf
        refine r_gI C hw e5 ck5 rfl (by decide) w198 dX9_expire_14 ?_
        refine lv_iconst (v := (2 : Int32)) hx hb dX9_expire_17 (by decide) ?_
        refine lv_icmp_ne (tgt := 31) hx hb dX9_expire_18 (by decide) (fun c6 => ?_) (fun c6 => ?_)
        · have hf := ie hf c6
          refine lv_aload_n hx hb dX9_expire_31 rfl (lv_at hl 1 rfl) ?_
          obtain ⟨z7, e7, hf⟩ := ob hf
          refine r_gR C hw e7 ck9 rfl (by decide) w239 dX9_expire_32 ?_
          cases z7 with
          | none =>
            have hf := on_n hf
            cases hf
          | some a8 =>
            have hf := on_s hf
            refine W.eq (g2 := F0 m 35 ls [.ref a8]) rfl ?_
            obtain ⟨z9, e9, hf⟩ := ob hf
            refine r_gI C hw e9 ck3 rfl (by decide) w41 dX9_expire_35 ?_
            refine lv_istore_n (lv' := [(3, .int z9), (2, .ref a2), (0, .ref x0), (1, .int x1)]) hx hb dX9_expire_38 rfl hl (by decide) rfl (fun ls hl => ?_)
            refine lv_aload_n hx hb dX9_expire_39 rfl (lv_at hl 1 rfl) ?_
            obtain ⟨kb10, hf⟩ := ig hf
            obtain ⟨z10, h10, e10, hf⟩ := ob2 hf
            refine r_callV C hw (mX5_standForElection e10) kXX5_standForElection ck5 rfl kb10 w370 w371 w372 ⟨Nat.le_of_ble_eq_true rfl, Nat.le_of_ble_eq_true rfl⟩ rfl hl.1 (rest := []) rfl (Nat.le_of_ble_eq_true rfl) dX9_expire_40 (mc := 9) (ms := 81) rfl rfl ⟨by show _ + 9 ≤ 10; omega, by show _ + 81 ≤ 87; omega⟩ (fun H locs hw => ?_)
            refine W.eq (g2 := F0 m 43 ls []) rfl ?_
            refine lv_aload_n hx hb dX9_expire_43 rfl (lv_at hl 2 rfl) ?_
            obtain ⟨z11, e11, hf⟩ := ob hf
            refine r_gR C hw e11 ck9 rfl (by decide) w239 dX9_expire_44 ?_
            cases z11 with
            | none =>
              have hf := on_n hf
              cases hf
            | some a12 =>
              have hf := on_s hf
              refine W.eq (g2 := F0 m 47 ls [.ref a12]) rfl ?_
              obtain ⟨z13, e13, hf⟩ := ob hf
              refine r_gI C hw e13 ck3 rfl (by decide) w41 dX9_expire_47 ?_
              refine lv_iload_n hx hb dX9_expire_50 rfl (lv_at hl 0 rfl) ?_
              refine lv_isub hx hb dX9_expire_51 ?_
              obtain ⟨rfl, rfl⟩ := sp hf
              exact x_iret Y hw rfl rfl (by omega) (by omega) dX9_expire_52
        · have hf := ip hf c6
          exact bX9_expire_21 Y hn _ _ hf _ _ _ _ _ (by omega) (by omega) hw (lv_sub hl [] rfl)
  · obtain ⟨rfl, rfl⟩ := sp hf
    exact x_thr (k := q1) rfl rfl Y hw (x_runV C Y.2.1 hw (mX9_nodeAt Y.2.2.1 e1) kXX9_nodeAt ck9 rfl kb1 w281 w283 v0 ⟨Nat.le_of_ble_eq_true rfl, Nat.le_of_ble_eq_true rfl⟩ rfl hl.1 (rest := []) rfl (Nat.le_of_ble_eq_true rfl) dX9_expire_2 (mc := 1) (ms := 6) rfl rfl ⟨by show _ + 1 ≤ 10; omega, by show _ + 6 ≤ 87; omega⟩) (by omega) (by omega)
theorem kXX9_expire : MK yX9_expire cX9_expire 4 (some .int) 1 := ⟨w280, w1, by decide +kernel⟩
theorem mX9_expire {D : va_G} {cy : Nat → ClassId} {s0 : Nat} {l : Launch} {x0 : Nat} {x1 : Int32} {h : Hp} {v : (Int32 ⊕ Nat)} {h1 : Hp} (hst : l.stackTraces = false) (hf : fX9_expire x0 x1 h = some (v, h1)) : XT D cy s0 l yX9_expire cX9_expire 4 (some .int) rX9_expire [.ref x0, .int x1] h (rxI v) h1 := by
  refine XT.of hst (by decide +kernel) (Nat.le_of_ble_eq_true rfl) ?_
  intro p e s m below meth c H locs ls Y hn hw hl
  exact bX9_expire Y hn _ _ _ _ hf _ _ _ _ _ (Nat.le_of_ble_eq_true rfl) (Nat.le_of_ble_eq_true rfl) hw hl
abbrev rX9_storeWithKey : Room := { frames := 7, cells := 2, slots := 12, locals := 113 }
abbrev pX9_storeWithKey (D : va_G) (cy : Nat → ClassId) (s0 : Nat) (p : Program) (l : Launch) (e : Env) (s : State) (m : MethodId) (args : Array Value) (below : List Frame) (meth : Method) (c : Code) (r : (Option Nat ⊕ Nat) × Hp) (x0 : Nat) (x1 : Int32) (x2 : Int32) (h : Hp) : Prop := ∀ (H : Heap) (locs : List Loc) (ls : Array Slot) (cells slots : Nat), cells + (2) ≤ 2 → slots + (12) ≤ 12 → WS D cy s0 s h H locs → lv_has ls 4 [(0, .ref x0), (1, .int x1), (2, .int x2)] → W p l e rX9_storeWithKey s m args below meth c H locs cells slots (vx_MQ below (QX D cy s0 (rxR r.1) r.2) (XX D cy s0 (rxR r.1) r.2) args s 2 12 (fun q => s0 ≤ q)) (F0 m 0 ls [])
set_option maxRecDepth 100000 in
set_option maxHeartbeats 4000000 in
theorem bX9_storeWithKey {D : va_G} {cy : Nat → ClassId} {s0 : Nat} {p : Program} {l : Launch} {e : Env} {s : State} {m : MethodId} {args : Array Value} {below : List Frame} {meth : Method} {c : Code} (Y : CY D cy s0 l p s m args meth c cX9_storeWithKey 4 RX9 (some (.object "RaftRegistry$Store"))) (hn : meth.name = "storeWithKey") : ∀ (x0 : Nat) (x1 : Int32) (x2 : Int32) (h : Hp) (r : (Option Nat ⊕ Nat) × Hp), fX9_storeWithKey x0 x1 x2 h = some r → pX9_storeWithKey D cy s0 p l e s m args below meth c r x0 x1 x2 h := by
  intro x0 x1 x2 h ⟨rv, rh⟩ hf H locs ls cells slots hc hs hw hl
  unfold fX9_storeWithKey at hf
  have C := Y.1
  have hx := C.1
  have hb := C.2.1
  refine lv_aload_n hx hb dX9_storeWithKey_0 rfl (lv_at hl 0 rfl) ?_
  refine lv_iload_n hx hb dX9_storeWithKey_1 rfl (lv_at hl 1 rfl) ?_
  obtain ⟨kb1, hf⟩ := ig hf
  rcases obx hf with ⟨z1, h1, e1, hf⟩ | ⟨q1, h1, e1, hf⟩
  · refine x_ret (v := (some (va_rf z1))) rfl hw (x_runV C Y.2.1 hw (mX9_nodeAt Y.2.2.1 e1) kXX9_nodeAt ck9 rfl kb1 w281 w283 v0 ⟨Nat.le_of_ble_eq_true rfl, Nat.le_of_ble_eq_true rfl⟩ rfl hl.1 (rest := []) rfl (Nat.le_of_ble_eq_true rfl) dX9_storeWithKey_2 (mc := 1) (ms := 6) rfl rfl ⟨by show _ + 1 ≤ 2; omega, by show _ + 6 ≤ 12; omega⟩) (fun H locs hw => ?_)
    cases z1 with
    | none =>
      have hf := on_n hf
      cases hf
    | some a2 =>
      have hf := on_s hf
      refine W.eq (g2 := F0 m 5 ls [.ref a2]) rfl ?_
      refine lv_astore_n (lv' := [(3, .ref a2), (0, .ref x0), (1, .int x1), (2, .int x2)]) hx hb dX9_storeWithKey_5 rfl hl (by decide) rfl (fun ls hl => ?_)
      refine lv_iload_n hx hb dX9_storeWithKey_6 rfl (lv_at hl 3 rfl) ?_
      obtain ⟨z3, h3, e3, hf⟩ := ob2 hf
      refine r_callS C hw (mX9_isKey e3) kXX9_isKey w861 w657 ⟨Nat.le_of_ble_eq_true rfl, Nat.le_of_ble_eq_true rfl⟩ rfl hl.1 (rest := []) rfl (Nat.le_of_ble_eq_true rfl) dX9_storeWithKey_7 (mc := 0) (ms := 0) rfl rfl ⟨by show _ + 0 ≤ 2; omega, by show _ + 0 ≤ 12; omega⟩ (fun H locs hw => ?_)
      refine W.eq (g2 := F0 m 10 ls [.int z3]) rfl ?_
      refine lv_if_ne (tgt := 23) hx hb dX9_storeWithKey_10 (by decide) (fun c4 => ?_) (fun c4 => ?_)
      · have hf := ie hf c4
        refine lv_aload_n hx hb dX9_storeWithKey_23 rfl (lv_at hl 0 rfl) ?_
        rcases obx hf with ⟨z5, h5, e5, hf⟩ | ⟨q5, h5, e5, hf⟩
        · refine x_ret (v := none) rfl hw (x_runS C Y.2.1 hw (mX9_requireUp Y.2.2.1 e5) kXX9_requireUp w783 w784 ⟨Nat.le_of_ble_eq_true rfl, Nat.le_of_ble_eq_true rfl⟩ rfl hl.1 (rest := []) rfl (Nat.le_of_ble_eq_true rfl) dX9_storeWithKey_24 (mc := 1) (ms := 6) rfl rfl ⟨by show _ + 1 ≤ 2; omega, by show _ + 6 ≤ 12; omega⟩) (fun H locs hw => ?_)
          refine W.eq (g2 := F0 m 27 ls []) rfl ?_
          refine lv_aload_n hx hb dX9_storeWithKey_27 rfl (lv_at hl 0 rfl) ?_
          obtain ⟨z6, e6, hf⟩ := ob hf
          refine r_gR C hw e6 ck5 rfl (by decide) w192 dX9_storeWithKey_28 ?_
          cases z6 with
          | none =>
            have hf := on_n hf
            refine W.eq (g2 := F0 m 31 ls [.null]) rfl ?_
            obtain ⟨rfl, rfl⟩ := sp hf
            exact x_aret Y hw rfl rfl (Or.inl ⟨_, rfl⟩) (by omega) (by omega) dX9_storeWithKey_31
          | some a7 =>
            have hf := on_s hf
            refine W.eq (g2 := F0 m 31 ls [.ref a7]) rfl ?_
            obtain ⟨rfl, rfl⟩ := sp hf
            exact x_aret Y hw rfl rfl (Or.inl ⟨_, rfl⟩) (by omega) (by omega) dX9_storeWithKey_31
        · obtain ⟨rfl, rfl⟩ := sp hf
          exact x_thr (k := q5) rfl rfl Y hw (x_runS C Y.2.1 hw (mX9_requireUp Y.2.2.1 e5) kXX9_requireUp w783 w784 ⟨Nat.le_of_ble_eq_true rfl, Nat.le_of_ble_eq_true rfl⟩ rfl hl.1 (rest := []) rfl (Nat.le_of_ble_eq_true rfl) dX9_storeWithKey_24 (mc := 1) (ms := 6) rfl rfl ⟨by show _ + 1 ≤ 2; omega, by show _ + 6 ≤ 12; omega⟩) (by omega) (by omega)
      · have hf := ip hf c4
        obtain ⟨rfl, rfl⟩ := sp hf
        exact x_throw Y hw (k := 0) rfl xk0_211_215 (by decide : (250, "no such KEY") ∈ STR) hl.1 dX9_storeWithKey_13 dX9_storeWithKey_16 dX9_storeWithKey_17 dX9_storeWithKey_19 dX9_storeWithKey_22 (Nat.le_of_ble_eq_true rfl) (Nat.le_of_ble_eq_true rfl) (by show _ + 1 ≤ 2; omega) (by show _ + 6 ≤ 12; omega) (by omega) (by omega)
  · obtain ⟨rfl, rfl⟩ := sp hf
    exact x_thr (k := q1) rfl rfl Y hw (x_runV C Y.2.1 hw (mX9_nodeAt Y.2.2.1 e1) kXX9_nodeAt ck9 rfl kb1 w281 w283 v0 ⟨Nat.le_of_ble_eq_true rfl, Nat.le_of_ble_eq_true rfl⟩ rfl hl.1 (rest := []) rfl (Nat.le_of_ble_eq_true rfl) dX9_storeWithKey_2 (mc := 1) (ms := 6) rfl rfl ⟨by show _ + 1 ≤ 2; omega, by show _ + 6 ≤ 12; omega⟩) (by omega) (by omega)
theorem kXX9_storeWithKey : MK yX9_storeWithKey cX9_storeWithKey 4 (some (.object "RaftRegistry$Store")) 2 := ⟨w860, w1, by decide +kernel⟩
theorem mX9_storeWithKey {D : va_G} {cy : Nat → ClassId} {s0 : Nat} {l : Launch} {x0 : Nat} {x1 : Int32} {x2 : Int32} {h : Hp} {v : (Option Nat ⊕ Nat)} {h1 : Hp} (hst : l.stackTraces = false) (hf : fX9_storeWithKey x0 x1 x2 h = some (v, h1)) : XT D cy s0 l yX9_storeWithKey cX9_storeWithKey 4 (some (.object "RaftRegistry$Store")) rX9_storeWithKey [.ref x0, .int x1, .int x2] h (rxR v) h1 := by
  refine XT.of hst (by decide +kernel) (Nat.le_of_ble_eq_true rfl) ?_
  intro p e s m below meth c H locs ls Y hn hw hl
  exact bX9_storeWithKey Y hn _ _ _ _ _ hf _ _ _ _ _ (Nat.le_of_ble_eq_true rfl) (Nat.le_of_ble_eq_true rfl) hw hl
abbrev rX9_key : Room := { frames := 8, cells := 3, slots := 18, locals := 136 }
abbrev pX9_key_17 (D : va_G) (cy : Nat → ClassId) (s0 : Nat) (p : Program) (l : Launch) (e : Env) (s : State) (m : MethodId) (args : Array Value) (below : List Frame) (meth : Method) (c : Code) (r : (Int32 ⊕ Nat) × Hp)  (h : Hp) : Prop := ∀ (H : Heap) (locs : List Loc) (ls : Array Slot) (cells slots : Nat), cells + (1) ≤ 3 → slots + (6) ≤ 18 → WS D cy s0 s h H locs → lv_has ls 5 [] → W p l e rX9_key s m args below meth c H locs cells slots (vx_MQ below (QX D cy s0 (rxI r.1) r.2) (XX D cy s0 (rxI r.1) r.2) args s 3 18 (fun q => s0 ≤ q)) (F0 m 17 ls [])
abbrev pX9_key (D : va_G) (cy : Nat → ClassId) (s0 : Nat) (p : Program) (l : Launch) (e : Env) (s : State) (m : MethodId) (args : Array Value) (below : List Frame) (meth : Method) (c : Code) (r : (Int32 ⊕ Nat) × Hp) (x0 : Nat) (x1 : Int32) (x2 : Int32) (x3 : Int32) (h : Hp) : Prop := ∀ (H : Heap) (locs : List Loc) (ls : Array Slot) (cells slots : Nat), cells + (3) ≤ 3 → slots + (18) ≤ 18 → WS D cy s0 s h H locs → lv_has ls 5 [(0, .ref x0), (1, .int x1), (2, .int x2), (3, .int x3)] → W p l e rX9_key s m args below meth c H locs cells slots (vx_MQ below (QX D cy s0 (rxI r.1) r.2) (XX D cy s0 (rxI r.1) r.2) args s 3 18 (fun q => s0 ≤ q)) (F0 m 0 ls [])
set_option maxRecDepth 100000 in
set_option maxHeartbeats 4000000 in
theorem bX9_key_17 {D : va_G} {cy : Nat → ClassId} {s0 : Nat} {p : Program} {l : Launch} {e : Env} {s : State} {m : MethodId} {args : Array Value} {below : List Frame} {meth : Method} {c : Code} (Y : CY D cy s0 l p s m args meth c cX9_key 5 RX9 (some .int)) (hn : meth.name = "key") : ∀  (h : Hp) (r : (Int32 ⊕ Nat) × Hp), fX9_key_17  h = some r → pX9_key_17 D cy s0 p l e s m args below meth c r  h := by
  intro  h ⟨rv, rh⟩ hf H locs ls cells slots hc hs hw hl
  unfold fX9_key_17 at hf
  have C := Y.1
  have hx := C.1
  have hb := C.2.1
  obtain ⟨rfl, rfl⟩ := sp hf
  exact x_throw Y hw (k := 2) rfl xk2_99_103 (by decide : (172, "what is not 0 to 4") ∈ STR) hl.1 dX9_key_17 dX9_key_20 dX9_key_21 dX9_key_23 dX9_key_26 (Nat.le_of_ble_eq_true rfl) (Nat.le_of_ble_eq_true rfl) (by show _ + 1 ≤ 3; omega) (by show _ + 6 ≤ 18; omega) (by omega) (by omega)
set_option maxRecDepth 100000 in
set_option maxHeartbeats 4000000 in
theorem bX9_key {D : va_G} {cy : Nat → ClassId} {s0 : Nat} {p : Program} {l : Launch} {e : Env} {s : State} {m : MethodId} {args : Array Value} {below : List Frame} {meth : Method} {c : Code} (Y : CY D cy s0 l p s m args meth c cX9_key 5 RX9 (some .int)) (hn : meth.name = "key") : ∀ (x0 : Nat) (x1 : Int32) (x2 : Int32) (x3 : Int32) (h : Hp) (r : (Int32 ⊕ Nat) × Hp), fX9_key x0 x1 x2 x3 h = some r → pX9_key D cy s0 p l e s m args below meth c r x0 x1 x2 x3 h := by
  intro x0 x1 x2 x3 h ⟨rv, rh⟩ hf H locs ls cells slots hc hs hw hl
  unfold fX9_key at hf
  have C := Y.1
  have hx := C.1
  have hb := C.2.1
  refine lv_aload_n hx hb dX9_key_0 rfl (lv_at hl 0 rfl) ?_
  refine lv_iload_n hx hb dX9_key_1 rfl (lv_at hl 1 rfl) ?_
  refine lv_iload_n hx hb dX9_key_2 rfl (lv_at hl 2 rfl) ?_
  obtain ⟨kb1, hf⟩ := ig hf
  rcases obx hf with ⟨z1, h1, e1, hf⟩ | ⟨q1, h1, e1, hf⟩
  · refine x_ret (v := (some (va_rf z1))) rfl hw (x_runV C Y.2.1 hw (mX9_storeWithKey Y.2.2.1 e1) kXX9_storeWithKey ck9 rfl kb1 w857 w859 v33 ⟨Nat.le_of_ble_eq_true rfl, Nat.le_of_ble_eq_true rfl⟩ rfl hl.1 (rest := []) rfl (Nat.le_of_ble_eq_true rfl) dX9_key_3 (mc := 2) (ms := 12) rfl rfl ⟨by show _ + 2 ≤ 3; omega, by show _ + 12 ≤ 18; omega⟩) (fun H locs hw => ?_)
    cases z1 with
    | none =>
      have hf := on_n hf
      cases hf
    | some a2 =>
      have hf := on_s hf
      refine W.eq (g2 := F0 m 6 ls [.ref a2]) rfl ?_
      refine lv_astore (lv' := [(4, .ref a2), (0, .ref x0), (1, .int x1), (2, .int x2), (3, .int x3)]) hx hb dX9_key_6 hl (by decide) rfl (fun ls hl => ?_)
      refine lv_iload_n hx hb dX9_key_8 rfl (lv_at hl 4 rfl) ?_
      refine lv_if_lt (tgt := 17) hx hb dX9_key_9 (by decide) (fun c3 => ?_) (fun c3 => ?_)
      · have hf := ip hf c3
        exact bX9_key_17 Y hn _ _ hf _ _ _ _ _ (by omega) (by omega) hw (lv_sub hl [] rfl)
      · have hf := ie hf c3
        refine lv_iload_n hx hb dX9_key_12 rfl (lv_at hl 4 rfl) ?_
        refine lv_iconst (v := (4 : Int32)) hx hb dX9_key_13 (by decide) ?_
        refine lv_icmp_le (tgt := 27) hx hb dX9_key_14 (by decide) (fun c4 => ?_) (fun c4 => ?_)
        · have hf := ip hf c4
          refine lv_aload hx hb dX9_key_27 (lv_at hl 0 rfl) ?_
          refine lv_iload_n hx hb dX9_key_29 rfl (lv_at hl 3 rfl) ?_
          refine lv_iload_n hx hb dX9_key_30 rfl (lv_at hl 4 rfl) ?_
          obtain ⟨kb5, hf⟩ := ig hf
          obtain ⟨z5, h5, e5, hf⟩ := ob2 hf
          refine r_callV C hw (mX7_keyField e5) kXX7_keyField ck7 rfl kb5 w864 w684 w685 ⟨Nat.le_of_ble_eq_true rfl, Nat.le_of_ble_eq_true rfl⟩ rfl hl.1 (rest := []) rfl (Nat.le_of_ble_eq_true rfl) dX9_key_31 (mc := 0) (ms := 0) rfl rfl ⟨by show _ + 0 ≤ 3; omega, by show _ + 0 ≤ 18; omega⟩ (fun H locs hw => ?_)
          refine W.eq (g2 := F0 m 34 ls [.int z5]) rfl ?_
          obtain ⟨rfl, rfl⟩ := sp hf
          exact x_iret Y hw rfl rfl (by omega) (by omega) dX9_key_34
        · have hf := ie hf c4
          exact bX9_key_17 Y hn _ _ hf _ _ _ _ _ (by omega) (by omega) hw (lv_sub hl [] rfl)
  · obtain ⟨rfl, rfl⟩ := sp hf
    exact x_thr (k := q1) rfl rfl Y hw (x_runV C Y.2.1 hw (mX9_storeWithKey Y.2.2.1 e1) kXX9_storeWithKey ck9 rfl kb1 w857 w859 v33 ⟨Nat.le_of_ble_eq_true rfl, Nat.le_of_ble_eq_true rfl⟩ rfl hl.1 (rest := []) rfl (Nat.le_of_ble_eq_true rfl) dX9_key_3 (mc := 2) (ms := 12) rfl rfl ⟨by show _ + 2 ≤ 3; omega, by show _ + 12 ≤ 18; omega⟩) (by omega) (by omega)
theorem kXX9_key : MK yX9_key cX9_key 5 (some .int) 3 := ⟨w856, w1, by decide +kernel⟩
theorem mX9_key {D : va_G} {cy : Nat → ClassId} {s0 : Nat} {l : Launch} {x0 : Nat} {x1 : Int32} {x2 : Int32} {x3 : Int32} {h : Hp} {v : (Int32 ⊕ Nat)} {h1 : Hp} (hst : l.stackTraces = false) (hf : fX9_key x0 x1 x2 x3 h = some (v, h1)) : XT D cy s0 l yX9_key cX9_key 5 (some .int) rX9_key [.ref x0, .int x1, .int x2, .int x3] h (rxI v) h1 := by
  refine XT.of hst (by decide +kernel) (Nat.le_of_ble_eq_true rfl) ?_
  intro p e s m below meth c H locs ls Y hn hw hl
  exact bX9_key Y hn _ _ _ _ _ _ hf _ _ _ _ _ (Nat.le_of_ble_eq_true rfl) (Nat.le_of_ble_eq_true rfl) hw hl
abbrev rX9_message : Room := { frames := 7, cells := 2, slots := 12, locals := 113 }
abbrev pX9_message_16 (D : va_G) (cy : Nat → ClassId) (s0 : Nat) (p : Program) (l : Launch) (e : Env) (s : State) (m : MethodId) (args : Array Value) (below : List Frame) (meth : Method) (c : Code) (r : (Int32 ⊕ Nat) × Hp)  (h : Hp) : Prop := ∀ (H : Heap) (locs : List Loc) (ls : Array Slot) (cells slots : Nat), cells + (1) ≤ 2 → slots + (6) ≤ 12 → WS D cy s0 s h H locs → lv_has ls 4 [] → W p l e rX9_message s m args below meth c H locs cells slots (vx_MQ below (QX D cy s0 (rxI r.1) r.2) (XX D cy s0 (rxI r.1) r.2) args s 2 12 (fun q => s0 ≤ q)) (F0 m 16 ls [])
abbrev pX9_message (D : va_G) (cy : Nat → ClassId) (s0 : Nat) (p : Program) (l : Launch) (e : Env) (s : State) (m : MethodId) (args : Array Value) (below : List Frame) (meth : Method) (c : Code) (r : (Int32 ⊕ Nat) × Hp) (x0 : Nat) (x1 : Int32) (x2 : Int32) (h : Hp) : Prop := ∀ (H : Heap) (locs : List Loc) (ls : Array Slot) (cells slots : Nat), cells + (2) ≤ 2 → slots + (12) ≤ 12 → WS D cy s0 s h H locs → lv_has ls 4 [(0, .ref x0), (1, .int x1), (2, .int x2)] → W p l e rX9_message s m args below meth c H locs cells slots (vx_MQ below (QX D cy s0 (rxI r.1) r.2) (XX D cy s0 (rxI r.1) r.2) args s 2 12 (fun q => s0 ≤ q)) (F0 m 0 ls [])
set_option maxRecDepth 100000 in
set_option maxHeartbeats 4000000 in
theorem bX9_message_16 {D : va_G} {cy : Nat → ClassId} {s0 : Nat} {p : Program} {l : Launch} {e : Env} {s : State} {m : MethodId} {args : Array Value} {below : List Frame} {meth : Method} {c : Code} (Y : CY D cy s0 l p s m args meth c cX9_message 4 RX9 (some .int)) (hn : meth.name = "message") : ∀  (h : Hp) (r : (Int32 ⊕ Nat) × Hp), fX9_message_16  h = some r → pX9_message_16 D cy s0 p l e s m args below meth c r  h := by
  intro  h ⟨rv, rh⟩ hf H locs ls cells slots hc hs hw hl
  unfold fX9_message_16 at hf
  have C := Y.1
  have hx := C.1
  have hb := C.2.1
  obtain ⟨rfl, rfl⟩ := sp hf
  exact x_throw Y hw (k := 2) rfl xk2_99_103 (by decide : (220, "what is not 0 to 7") ∈ STR) hl.1 dX9_message_16 dX9_message_19 dX9_message_20 dX9_message_22 dX9_message_25 (Nat.le_of_ble_eq_true rfl) (Nat.le_of_ble_eq_true rfl) (by show _ + 1 ≤ 2; omega) (by show _ + 6 ≤ 12; omega) (by omega) (by omega)
set_option maxRecDepth 100000 in
set_option maxHeartbeats 4000000 in
theorem bX9_message {D : va_G} {cy : Nat → ClassId} {s0 : Nat} {p : Program} {l : Launch} {e : Env} {s : State} {m : MethodId} {args : Array Value} {below : List Frame} {meth : Method} {c : Code} (Y : CY D cy s0 l p s m args meth c cX9_message 4 RX9 (some .int)) (hn : meth.name = "message") : ∀ (x0 : Nat) (x1 : Int32) (x2 : Int32) (h : Hp) (r : (Int32 ⊕ Nat) × Hp), fX9_message x0 x1 x2 h = some r → pX9_message D cy s0 p l e s m args below meth c r x0 x1 x2 h := by
  intro x0 x1 x2 h ⟨rv, rh⟩ hf H locs ls cells slots hc hs hw hl
  unfold fX9_message at hf
  have C := Y.1
  have hx := C.1
  have hb := C.2.1
  refine lv_aload_n hx hb dX9_message_0 rfl (lv_at hl 0 rfl) ?_
  refine lv_iload_n hx hb dX9_message_1 rfl (lv_at hl 1 rfl) ?_
  obtain ⟨kb1, hf⟩ := ig hf
  rcases obx hf with ⟨z1, h1, e1, hf⟩ | ⟨q1, h1, e1, hf⟩
  · refine x_ret (v := (some (va_rf z1))) rfl hw (x_runV C Y.2.1 hw (mX9_messageAt Y.2.2.1 e1) kXX9_messageAt ck9 rfl kb1 w452 w454 v4 ⟨Nat.le_of_ble_eq_true rfl, Nat.le_of_ble_eq_true rfl⟩ rfl hl.1 (rest := []) rfl (Nat.le_of_ble_eq_true rfl) dX9_message_2 (mc := 1) (ms := 6) rfl rfl ⟨by show _ + 1 ≤ 2; omega, by show _ + 6 ≤ 12; omega⟩) (fun H locs hw => ?_)
    cases z1 with
    | none =>
      have hf := on_n hf
      cases hf
    | some a2 =>
      have hf := on_s hf
      refine W.eq (g2 := F0 m 5 ls [.ref a2]) rfl ?_
      refine lv_astore_n (lv' := [(3, .ref a2), (0, .ref x0), (1, .int x1), (2, .int x2)]) hx hb dX9_message_5 rfl hl (by decide) rfl (fun ls hl => ?_)
      refine lv_iload_n hx hb dX9_message_6 rfl (lv_at hl 3 rfl) ?_
      refine lv_if_lt (tgt := 16) hx hb dX9_message_7 (by decide) (fun c3 => ?_) (fun c3 => ?_)
      · have hf := ip hf c3
        exact bX9_message_16 Y hn _ _ hf _ _ _ _ _ (by omega) (by omega) hw (lv_sub hl [] rfl)
      · have hf := ie hf c3
        refine lv_iload_n hx hb dX9_message_10 rfl (lv_at hl 3 rfl) ?_
        refine lv_bipush (v := (8 : Int32)) hx hb dX9_message_11 (by decide) ?_
        refine lv_icmp_lt (tgt := 26) hx hb dX9_message_13 (by decide) (fun c4 => ?_) (fun c4 => ?_)
        · have hf := ip hf c4
          refine lv_aload_n hx hb dX9_message_26 rfl (lv_at hl 0 rfl) ?_
          refine lv_iload_n hx hb dX9_message_27 rfl (lv_at hl 3 rfl) ?_
          obtain ⟨kb5, hf⟩ := ig hf
          obtain ⟨z5, h5, e5, hf⟩ := ob2 hf
          refine r_callV C hw (mX4_field e5) kXX4_field ck4 rfl kb5 w908 w909 w910 ⟨Nat.le_of_ble_eq_true rfl, Nat.le_of_ble_eq_true rfl⟩ rfl hl.1 (rest := []) rfl (Nat.le_of_ble_eq_true rfl) dX9_message_28 (mc := 0) (ms := 0) rfl rfl ⟨by show _ + 0 ≤ 2; omega, by show _ + 0 ≤ 12; omega⟩ (fun H locs hw => ?_)
          refine W.eq (g2 := F0 m 31 ls [.int z5]) rfl ?_
          obtain ⟨rfl, rfl⟩ := sp hf
          exact x_iret Y hw rfl rfl (by omega) (by omega) dX9_message_31
        · have hf := ie hf c4
          exact bX9_message_16 Y hn _ _ hf _ _ _ _ _ (by omega) (by omega) hw (lv_sub hl [] rfl)
  · obtain ⟨rfl, rfl⟩ := sp hf
    exact x_thr (k := q1) rfl rfl Y hw (x_runV C Y.2.1 hw (mX9_messageAt Y.2.2.1 e1) kXX9_messageAt ck9 rfl kb1 w452 w454 v4 ⟨Nat.le_of_ble_eq_true rfl, Nat.le_of_ble_eq_true rfl⟩ rfl hl.1 (rest := []) rfl (Nat.le_of_ble_eq_true rfl) dX9_message_2 (mc := 1) (ms := 6) rfl rfl ⟨by show _ + 1 ≤ 2; omega, by show _ + 6 ≤ 12; omega⟩) (by omega) (by omega)
theorem kXX9_message : MK yX9_message cX9_message 4 (some .int) 2 := ⟨w906, w1, by decide +kernel⟩
theorem mX9_message {D : va_G} {cy : Nat → ClassId} {s0 : Nat} {l : Launch} {x0 : Nat} {x1 : Int32} {x2 : Int32} {h : Hp} {v : (Int32 ⊕ Nat)} {h1 : Hp} (hst : l.stackTraces = false) (hf : fX9_message x0 x1 x2 h = some (v, h1)) : XT D cy s0 l yX9_message cX9_message 4 (some .int) rX9_message [.ref x0, .int x1, .int x2] h (rxI v) h1 := by
  refine XT.of hst (by decide +kernel) (Nat.le_of_ble_eq_true rfl) ?_
  intro p e s m below meth c H locs ls Y hn hw hl
  exact bX9_message Y hn _ _ _ _ _ hf _ _ _ _ _ (Nat.le_of_ble_eq_true rfl) (Nat.le_of_ble_eq_true rfl) hw hl
abbrev rX9_node : Room := { frames := 7, cells := 2, slots := 12, locals := 113 }
abbrev pX9_node_16 (D : va_G) (cy : Nat → ClassId) (s0 : Nat) (p : Program) (l : Launch) (e : Env) (s : State) (m : MethodId) (args : Array Value) (below : List Frame) (meth : Method) (c : Code) (r : (Int32 ⊕ Nat) × Hp)  (h : Hp) : Prop := ∀ (H : Heap) (locs : List Loc) (ls : Array Slot) (cells slots : Nat), cells + (1) ≤ 2 → slots + (6) ≤ 12 → WS D cy s0 s h H locs → lv_has ls 4 [] → W p l e rX9_node s m args below meth c H locs cells slots (vx_MQ below (QX D cy s0 (rxI r.1) r.2) (XX D cy s0 (rxI r.1) r.2) args s 2 12 (fun q => s0 ≤ q)) (F0 m 16 ls [])
abbrev pX9_node (D : va_G) (cy : Nat → ClassId) (s0 : Nat) (p : Program) (l : Launch) (e : Env) (s : State) (m : MethodId) (args : Array Value) (below : List Frame) (meth : Method) (c : Code) (r : (Int32 ⊕ Nat) × Hp) (x0 : Nat) (x1 : Int32) (x2 : Int32) (h : Hp) : Prop := ∀ (H : Heap) (locs : List Loc) (ls : Array Slot) (cells slots : Nat), cells + (2) ≤ 2 → slots + (12) ≤ 12 → WS D cy s0 s h H locs → lv_has ls 4 [(0, .ref x0), (1, .int x1), (2, .int x2)] → W p l e rX9_node s m args below meth c H locs cells slots (vx_MQ below (QX D cy s0 (rxI r.1) r.2) (XX D cy s0 (rxI r.1) r.2) args s 2 12 (fun q => s0 ≤ q)) (F0 m 0 ls [])
set_option maxRecDepth 100000 in
set_option maxHeartbeats 4000000 in
theorem bX9_node_16 {D : va_G} {cy : Nat → ClassId} {s0 : Nat} {p : Program} {l : Launch} {e : Env} {s : State} {m : MethodId} {args : Array Value} {below : List Frame} {meth : Method} {c : Code} (Y : CY D cy s0 l p s m args meth c cX9_node 4 RX9 (some .int)) (hn : meth.name = "node") : ∀  (h : Hp) (r : (Int32 ⊕ Nat) × Hp), fX9_node_16  h = some r → pX9_node_16 D cy s0 p l e s m args below meth c r  h := by
  intro  h ⟨rv, rh⟩ hf H locs ls cells slots hc hs hw hl
  unfold fX9_node_16 at hf
  have C := Y.1
  have hx := C.1
  have hb := C.2.1
  obtain ⟨rfl, rfl⟩ := sp hf
  exact x_throw Y hw (k := 2) rfl xk2_99_103 (by decide : (225, "what is not 0 to 13") ∈ STR) hl.1 dX9_node_16 dX9_node_19 dX9_node_20 dX9_node_22 dX9_node_25 (Nat.le_of_ble_eq_true rfl) (Nat.le_of_ble_eq_true rfl) (by show _ + 1 ≤ 2; omega) (by show _ + 6 ≤ 12; omega) (by omega) (by omega)
set_option maxRecDepth 100000 in
set_option maxHeartbeats 4000000 in
theorem bX9_node {D : va_G} {cy : Nat → ClassId} {s0 : Nat} {p : Program} {l : Launch} {e : Env} {s : State} {m : MethodId} {args : Array Value} {below : List Frame} {meth : Method} {c : Code} (Y : CY D cy s0 l p s m args meth c cX9_node 4 RX9 (some .int)) (hn : meth.name = "node") : ∀ (x0 : Nat) (x1 : Int32) (x2 : Int32) (h : Hp) (r : (Int32 ⊕ Nat) × Hp), fX9_node x0 x1 x2 h = some r → pX9_node D cy s0 p l e s m args below meth c r x0 x1 x2 h := by
  intro x0 x1 x2 h ⟨rv, rh⟩ hf H locs ls cells slots hc hs hw hl
  unfold fX9_node at hf
  have C := Y.1
  have hx := C.1
  have hb := C.2.1
  refine lv_aload_n hx hb dX9_node_0 rfl (lv_at hl 0 rfl) ?_
  refine lv_iload_n hx hb dX9_node_1 rfl (lv_at hl 1 rfl) ?_
  obtain ⟨kb1, hf⟩ := ig hf
  rcases obx hf with ⟨z1, h1, e1, hf⟩ | ⟨q1, h1, e1, hf⟩
  · refine x_ret (v := (some (va_rf z1))) rfl hw (x_runV C Y.2.1 hw (mX9_nodeAt Y.2.2.1 e1) kXX9_nodeAt ck9 rfl kb1 w281 w283 v0 ⟨Nat.le_of_ble_eq_true rfl, Nat.le_of_ble_eq_true rfl⟩ rfl hl.1 (rest := []) rfl (Nat.le_of_ble_eq_true rfl) dX9_node_2 (mc := 1) (ms := 6) rfl rfl ⟨by show _ + 1 ≤ 2; omega, by show _ + 6 ≤ 12; omega⟩) (fun H locs hw => ?_)
    cases z1 with
    | none =>
      have hf := on_n hf
      cases hf
    | some a2 =>
      have hf := on_s hf
      refine W.eq (g2 := F0 m 5 ls [.ref a2]) rfl ?_
      refine lv_astore_n (lv' := [(3, .ref a2), (0, .ref x0), (1, .int x1), (2, .int x2)]) hx hb dX9_node_5 rfl hl (by decide) rfl (fun ls hl => ?_)
      refine lv_iload_n hx hb dX9_node_6 rfl (lv_at hl 3 rfl) ?_
      refine lv_if_lt (tgt := 16) hx hb dX9_node_7 (by decide) (fun c3 => ?_) (fun c3 => ?_)
      · have hf := ip hf c3
        exact bX9_node_16 Y hn _ _ hf _ _ _ _ _ (by omega) (by omega) hw (lv_sub hl [] rfl)
      · have hf := ie hf c3
        refine lv_iload_n hx hb dX9_node_10 rfl (lv_at hl 3 rfl) ?_
        refine lv_bipush (v := (14 : Int32)) hx hb dX9_node_11 (by decide) ?_
        refine lv_icmp_lt (tgt := 26) hx hb dX9_node_13 (by decide) (fun c4 => ?_) (fun c4 => ?_)
        · have hf := ip hf c4
          refine lv_iload_n hx hb dX9_node_26 rfl (lv_at hl 3 rfl) ?_
          refine lv_bipush (v := (8 : Int32)) hx hb dX9_node_27 (by decide) ?_
          refine lv_icmp_ge (tgt := 38) hx hb dX9_node_29 (by decide) (fun c5 => ?_) (fun c5 => ?_)
          · have hf := ip hf c5
            refine lv_aload_n hx hb dX9_node_38 rfl (lv_at hl 0 rfl) ?_
            obtain ⟨z6, e6, hf⟩ := ob hf
            refine r_gI C hw e6 ck5 rfl (by decide) w196 dX9_node_39 ?_
            refine lv_if_eq (tgt := 56) hx hb dX9_node_42 (by decide) (fun c7 => ?_) (fun c7 => ?_)
            · have hf := ip hf c7
              refine lv_iconst (v := (0 : Int32)) hx hb dX9_node_56 (by decide) ?_
              obtain ⟨rfl, rfl⟩ := sp hf
              exact x_iret Y hw rfl rfl (by omega) (by omega) dX9_node_57
            · have hf := ie hf c7
              refine lv_aload_n hx hb dX9_node_45 rfl (lv_at hl 0 rfl) ?_
              obtain ⟨z8, e8, hf⟩ := ob hf
              refine r_gR C hw e8 ck5 rfl (by decide) w192 dX9_node_46 ?_
              cases z8 with
              | none =>
                have hf := on_n hf
                cases hf
              | some a9 =>
                have hf := on_s hf
                refine W.eq (g2 := F0 m 49 ls [.ref a9]) rfl ?_
                refine lv_iload_n hx hb dX9_node_49 rfl (lv_at hl 3 rfl) ?_
                obtain ⟨kb10, hf⟩ := ig hf
                obtain ⟨z10, h10, e10, hf⟩ := ob2 hf
                refine r_callV C hw (mX7_field e10) kXX7_field ck7 rfl kb10 w925 w926 w927 ⟨Nat.le_of_ble_eq_true rfl, Nat.le_of_ble_eq_true rfl⟩ rfl hl.1 (rest := []) rfl (Nat.le_of_ble_eq_true rfl) dX9_node_50 (mc := 0) (ms := 0) rfl rfl ⟨by show _ + 0 ≤ 2; omega, by show _ + 0 ≤ 12; omega⟩ (fun H locs hw => ?_)
                refine W.eq (g2 := F0 m 53 ls [.int z10]) rfl ?_
                refine lv_goto (tgt := 57) hx hb dX9_node_53 (by decide) ?_
                obtain ⟨rfl, rfl⟩ := sp hf
                exact x_iret Y hw rfl rfl (by omega) (by omega) dX9_node_57
          · have hf := ie hf c5
            refine lv_aload_n hx hb dX9_node_32 rfl (lv_at hl 0 rfl) ?_
            refine lv_iload_n hx hb dX9_node_33 rfl (lv_at hl 3 rfl) ?_
            obtain ⟨kb12, hf⟩ := ig hf
            obtain ⟨z12, h12, e12, hf⟩ := ob2 hf
            refine r_callV C hw (mX5_field e12) kXX5_field ck5 rfl kb12 w921 w922 w923 ⟨Nat.le_of_ble_eq_true rfl, Nat.le_of_ble_eq_true rfl⟩ rfl hl.1 (rest := []) rfl (Nat.le_of_ble_eq_true rfl) dX9_node_34 (mc := 0) (ms := 0) rfl rfl ⟨by show _ + 0 ≤ 2; omega, by show _ + 0 ≤ 12; omega⟩ (fun H locs hw => ?_)
            refine W.eq (g2 := F0 m 37 ls [.int z12]) rfl ?_
            obtain ⟨rfl, rfl⟩ := sp hf
            exact x_iret Y hw rfl rfl (by omega) (by omega) dX9_node_37
        · have hf := ie hf c4
          exact bX9_node_16 Y hn _ _ hf _ _ _ _ _ (by omega) (by omega) hw (lv_sub hl [] rfl)
  · obtain ⟨rfl, rfl⟩ := sp hf
    exact x_thr (k := q1) rfl rfl Y hw (x_runV C Y.2.1 hw (mX9_nodeAt Y.2.2.1 e1) kXX9_nodeAt ck9 rfl kb1 w281 w283 v0 ⟨Nat.le_of_ble_eq_true rfl, Nat.le_of_ble_eq_true rfl⟩ rfl hl.1 (rest := []) rfl (Nat.le_of_ble_eq_true rfl) dX9_node_2 (mc := 1) (ms := 6) rfl rfl ⟨by show _ + 1 ≤ 2; omega, by show _ + 6 ≤ 12; omega⟩) (by omega) (by omega)
theorem kXX9_node : MK yX9_node cX9_node 4 (some .int) 2 := ⟨w919, w1, by decide +kernel⟩
theorem mX9_node {D : va_G} {cy : Nat → ClassId} {s0 : Nat} {l : Launch} {x0 : Nat} {x1 : Int32} {x2 : Int32} {h : Hp} {v : (Int32 ⊕ Nat)} {h1 : Hp} (hst : l.stackTraces = false) (hf : fX9_node x0 x1 x2 h = some (v, h1)) : XT D cy s0 l yX9_node cX9_node 4 (some .int) rX9_node [.ref x0, .int x1, .int x2] h (rxI v) h1 := by
  refine XT.of hst (by decide +kernel) (Nat.le_of_ble_eq_true rfl) ?_
  intro p e s m below meth c H locs ls Y hn hw hl
  exact bX9_node Y hn _ _ _ _ _ hf _ _ _ _ _ (Nat.le_of_ble_eq_true rfl) (Nat.le_of_ble_eq_true rfl) hw hl
abbrev rX9_past : Room := { frames := 8, cells := 3, slots := 18, locals := 136 }
abbrev pX9_past_26 (D : va_G) (cy : Nat → ClassId) (s0 : Nat) (p : Program) (l : Launch) (e : Env) (s : State) (m : MethodId) (args : Array Value) (below : List Frame) (meth : Method) (c : Code) (r : (Int32 ⊕ Nat) × Hp)  (h : Hp) : Prop := ∀ (H : Heap) (locs : List Loc) (ls : Array Slot) (cells slots : Nat), cells + (1) ≤ 3 → slots + (6) ≤ 18 → WS D cy s0 s h H locs → lv_has ls 6 [] → W p l e rX9_past s m args below meth c H locs cells slots (vx_MQ below (QX D cy s0 (rxI r.1) r.2) (XX D cy s0 (rxI r.1) r.2) args s 3 18 (fun q => s0 ≤ q)) (F0 m 26 ls [])
abbrev pX9_past (D : va_G) (cy : Nat → ClassId) (s0 : Nat) (p : Program) (l : Launch) (e : Env) (s : State) (m : MethodId) (args : Array Value) (below : List Frame) (meth : Method) (c : Code) (r : (Int32 ⊕ Nat) × Hp) (x0 : Nat) (x1 : Int32) (x2 : Int32) (x3 : Int32) (h : Hp) : Prop := ∀ (H : Heap) (locs : List Loc) (ls : Array Slot) (cells slots : Nat), cells + (3) ≤ 3 → slots + (18) ≤ 18 → WS D cy s0 s h H locs → lv_has ls 6 [(0, .ref x0), (1, .int x1), (2, .int x2), (3, .int x3)] → W p l e rX9_past s m args below meth c H locs cells slots (vx_MQ below (QX D cy s0 (rxI r.1) r.2) (XX D cy s0 (rxI r.1) r.2) args s 3 18 (fun q => s0 ≤ q)) (F0 m 0 ls [])
set_option maxRecDepth 100000 in
set_option maxHeartbeats 4000000 in
theorem bX9_past_26 {D : va_G} {cy : Nat → ClassId} {s0 : Nat} {p : Program} {l : Launch} {e : Env} {s : State} {m : MethodId} {args : Array Value} {below : List Frame} {meth : Method} {c : Code} (Y : CY D cy s0 l p s m args meth c cX9_past 6 RX9 (some .int)) (hn : meth.name = "past") : ∀  (h : Hp) (r : (Int32 ⊕ Nat) × Hp), fX9_past_26  h = some r → pX9_past_26 D cy s0 p l e s m args below meth c r  h := by
  intro  h ⟨rv, rh⟩ hf H locs ls cells slots hc hs hw hl
  unfold fX9_past_26 at hf
  have C := Y.1
  have hx := C.1
  have hb := C.2.1
  obtain ⟨rfl, rfl⟩ := sp hf
  exact x_throw Y hw (k := 2) rfl xk2_99_103 (by decide : (184, "r is below COMPACTED or above REVISION") ∈ STR) hl.1 dX9_past_26 dX9_past_29 dX9_past_30 dX9_past_32 dX9_past_35 (Nat.le_of_ble_eq_true rfl) (Nat.le_of_ble_eq_true rfl) (by show _ + 1 ≤ 3; omega) (by show _ + 6 ≤ 18; omega) (by omega) (by omega)
set_option maxRecDepth 100000 in
set_option maxHeartbeats 4000000 in
theorem bX9_past {D : va_G} {cy : Nat → ClassId} {s0 : Nat} {p : Program} {l : Launch} {e : Env} {s : State} {m : MethodId} {args : Array Value} {below : List Frame} {meth : Method} {c : Code} (Y : CY D cy s0 l p s m args meth c cX9_past 6 RX9 (some .int)) (hn : meth.name = "past") : ∀ (x0 : Nat) (x1 : Int32) (x2 : Int32) (x3 : Int32) (h : Hp) (r : (Int32 ⊕ Nat) × Hp), fX9_past x0 x1 x2 x3 h = some r → pX9_past D cy s0 p l e s m args below meth c r x0 x1 x2 x3 h := by
  intro x0 x1 x2 x3 h ⟨rv, rh⟩ hf H locs ls cells slots hc hs hw hl
  unfold fX9_past at hf
  have C := Y.1
  have hx := C.1
  have hb := C.2.1
  refine lv_aload_n hx hb dX9_past_0 rfl (lv_at hl 0 rfl) ?_
  refine lv_iload_n hx hb dX9_past_1 rfl (lv_at hl 1 rfl) ?_
  refine lv_iload_n hx hb dX9_past_2 rfl (lv_at hl 2 rfl) ?_
  obtain ⟨kb1, hf⟩ := ig hf
  rcases obx hf with ⟨z1, h1, e1, hf⟩ | ⟨q1, h1, e1, hf⟩
  · refine x_ret (v := (some (va_rf z1))) rfl hw (x_runV C Y.2.1 hw (mX9_storeWithKey Y.2.2.1 e1) kXX9_storeWithKey ck9 rfl kb1 w857 w859 v33 ⟨Nat.le_of_ble_eq_true rfl, Nat.le_of_ble_eq_true rfl⟩ rfl hl.1 (rest := []) rfl (Nat.le_of_ble_eq_true rfl) dX9_past_3 (mc := 2) (ms := 12) rfl rfl ⟨by show _ + 2 ≤ 3; omega, by show _ + 12 ≤ 18; omega⟩) (fun H locs hw => ?_)
    cases z1 with
    | none =>
      have hf := on_n hf
      cases hf
    | some a2 =>
      have hf := on_s hf
      refine W.eq (g2 := F0 m 6 ls [.ref a2]) rfl ?_
      refine lv_astore (lv' := [(4, .ref a2), (0, .ref x0), (1, .int x1), (2, .int x2), (3, .int x3)]) hx hb dX9_past_6 hl (by decide) rfl (fun ls hl => ?_)
      refine lv_iload_n hx hb dX9_past_8 rfl (lv_at hl 4 rfl) ?_
      refine lv_aload hx hb dX9_past_9 (lv_at hl 0 rfl) ?_
      obtain ⟨z3, e3, hf⟩ := ob hf
      refine r_gI C hw e3 ck7 rfl (by decide) w81 dX9_past_11 ?_
      refine lv_icmp_lt (tgt := 26) hx hb dX9_past_14 (by decide) (fun c4 => ?_) (fun c4 => ?_)
      · have hf := ip hf c4
        exact bX9_past_26 Y hn _ _ hf _ _ _ _ _ (by omega) (by omega) hw (lv_sub hl [] rfl)
      · have hf := ie hf c4
        refine lv_iload_n hx hb dX9_past_17 rfl (lv_at hl 4 rfl) ?_
        refine lv_aload hx hb dX9_past_18 (lv_at hl 0 rfl) ?_
        obtain ⟨z5, e5, hf⟩ := ob hf
        refine r_gI C hw e5 ck7 rfl (by decide) w79 dX9_past_20 ?_
        refine lv_icmp_le (tgt := 36) hx hb dX9_past_23 (by decide) (fun c6 => ?_) (fun c6 => ?_)
        · have hf := ip hf c6
          refine lv_aload hx hb dX9_past_36 (lv_at hl 0 rfl) ?_
          refine lv_iload_n hx hb dX9_past_38 rfl (lv_at hl 3 rfl) ?_
          refine lv_iload_n hx hb dX9_past_39 rfl (lv_at hl 4 rfl) ?_
          obtain ⟨kb7, hf⟩ := ig hf
          obtain ⟨z7, h7, e7, hf⟩ := ob2 hf
          refine r_callV C hw (mX7_latestEventOfKey e7) kXX7_latestEventOfKey ck7 rfl kb7 w873 w874 w875 ⟨Nat.le_of_ble_eq_true rfl, Nat.le_of_ble_eq_true rfl⟩ rfl hl.1 (rest := []) rfl (Nat.le_of_ble_eq_true rfl) dX9_past_40 (mc := 0) (ms := 0) rfl rfl ⟨by show _ + 0 ≤ 3; omega, by show _ + 0 ≤ 18; omega⟩ (fun H locs hw => ?_)
          refine W.eq (g2 := F0 m 43 ls [.int z7]) rfl ?_
          refine lv_istore (lv' := [(5, .int z7), (4, .ref a2), (0, .ref x0), (1, .int x1), (2, .int x2), (3, .int x3)]) hx hb dX9_past_43 hl (by decide) rfl (fun ls hl => ?_)
          refine lv_aload hx hb dX9_past_45 (lv_at hl 1 rfl) ?_
          refine lv_iload_n hx hb dX9_past_47 rfl (lv_at hl 4 rfl) ?_
          refine lv_iload hx hb dX9_past_48 (lv_at hl 0 rfl) ?_
          obtain ⟨kb8, hf⟩ := ig hf
          obtain ⟨z8, h8, e8, hf⟩ := ob2 hf
          refine r_callV C hw (mX7_wasThere e8) kXX7_wasThere ck7 rfl kb8 w881 w882 w883 ⟨Nat.le_of_ble_eq_true rfl, Nat.le_of_ble_eq_true rfl⟩ rfl hl.1 (rest := []) rfl (Nat.le_of_ble_eq_true rfl) dX9_past_50 (mc := 0) (ms := 0) rfl rfl ⟨by show _ + 0 ≤ 3; omega, by show _ + 0 ≤ 18; omega⟩ (fun H locs hw => ?_)
          refine W.eq (g2 := F0 m 53 ls [.int z8]) rfl ?_
          refine lv_if_ne (tgt := 66) hx hb dX9_past_53 (by decide) (fun c9 => ?_) (fun c9 => ?_)
          · have hf := ie hf c9
            refine lv_aload hx hb dX9_past_66 (lv_at hl 1 rfl) ?_
            refine lv_iload_n hx hb dX9_past_68 rfl (lv_at hl 4 rfl) ?_
            refine lv_iload hx hb dX9_past_69 (lv_at hl 0 rfl) ?_
            obtain ⟨kb10, hf⟩ := ig hf
            obtain ⟨z10, h10, e10, hf⟩ := ob2 hf
            refine r_callV C hw (mX7_valueThen e10) kXX7_valueThen ck7 rfl kb10 w886 w887 w888 ⟨Nat.le_of_ble_eq_true rfl, Nat.le_of_ble_eq_true rfl⟩ rfl hl.1 (rest := []) rfl (Nat.le_of_ble_eq_true rfl) dX9_past_71 (mc := 0) (ms := 0) rfl rfl ⟨by show _ + 0 ≤ 3; omega, by show _ + 0 ≤ 18; omega⟩ (fun H locs hw => ?_)
            refine W.eq (g2 := F0 m 74 ls [.int z10]) rfl ?_
            obtain ⟨rfl, rfl⟩ := sp hf
            exact x_iret Y hw rfl rfl (by omega) (by omega) dX9_past_74
          · have hf := ip hf c9
            obtain ⟨rfl, rfl⟩ := sp hf
            exact x_throw3 (n4 := 2) Y hw rfl xk3_159_163 (by decide : (193, "the KEY was not there") ∈ STR) hl.1 dX9_past_56 dX9_past_59 (Or.inl ⟨rfl, dX9_past_60⟩) dX9_past_62 dX9_past_65 (Nat.le_of_ble_eq_true rfl) (Nat.le_of_ble_eq_true rfl) (by show _ + 1 ≤ 3; omega) (by show _ + 6 ≤ 18; omega) (by omega) (by omega)
        · have hf := ie hf c6
          exact bX9_past_26 Y hn _ _ hf _ _ _ _ _ (by omega) (by omega) hw (lv_sub hl [] rfl)
  · obtain ⟨rfl, rfl⟩ := sp hf
    exact x_thr (k := q1) rfl rfl Y hw (x_runV C Y.2.1 hw (mX9_storeWithKey Y.2.2.1 e1) kXX9_storeWithKey ck9 rfl kb1 w857 w859 v33 ⟨Nat.le_of_ble_eq_true rfl, Nat.le_of_ble_eq_true rfl⟩ rfl hl.1 (rest := []) rfl (Nat.le_of_ble_eq_true rfl) dX9_past_3 (mc := 2) (ms := 12) rfl rfl ⟨by show _ + 2 ≤ 3; omega, by show _ + 12 ≤ 18; omega⟩) (by omega) (by omega)
theorem kXX9_past : MK yX9_past cX9_past 6 (some .int) 3 := ⟨w871, w1, by decide +kernel⟩
theorem mX9_past {D : va_G} {cy : Nat → ClassId} {s0 : Nat} {l : Launch} {x0 : Nat} {x1 : Int32} {x2 : Int32} {x3 : Int32} {h : Hp} {v : (Int32 ⊕ Nat)} {h1 : Hp} (hst : l.stackTraces = false) (hf : fX9_past x0 x1 x2 x3 h = some (v, h1)) : XT D cy s0 l yX9_past cX9_past 6 (some .int) rX9_past [.ref x0, .int x1, .int x2, .int x3] h (rxI v) h1 := by
  refine XT.of hst (by decide +kernel) (Nat.le_of_ble_eq_true rfl) ?_
  intro p e s m below meth c H locs ls Y hn hw hl
  exact bX9_past Y hn _ _ _ _ _ _ hf _ _ _ _ _ (Nat.le_of_ble_eq_true rfl) (Nat.le_of_ble_eq_true rfl) hw hl
abbrev rX9_power : Room := { frames := 7, cells := 2, slots := 12, locals := 113 }
abbrev pX9_power_17 (D : va_G) (cy : Nat → ClassId) (s0 : Nat) (p : Program) (l : Launch) (e : Env) (s : State) (m : MethodId) (args : Array Value) (below : List Frame) (meth : Method) (c : Code) (r : (Unit ⊕ Nat) × Hp)  (h : Hp) : Prop := ∀ (H : Heap) (locs : List Loc) (ls : Array Slot) (cells slots : Nat), cells + (1) ≤ 2 → slots + (6) ≤ 12 → WS D cy s0 s h H locs → lv_has ls 4 [] → W p l e rX9_power s m args below meth c H locs cells slots (vx_MQ below (QX D cy s0 (rxV r.1) r.2) (XX D cy s0 (rxV r.1) r.2) args s 2 12 (fun q => s0 ≤ q)) (F0 m 17 ls [])
abbrev pX9_power (D : va_G) (cy : Nat → ClassId) (s0 : Nat) (p : Program) (l : Launch) (e : Env) (s : State) (m : MethodId) (args : Array Value) (below : List Frame) (meth : Method) (c : Code) (r : (Unit ⊕ Nat) × Hp) (x0 : Nat) (x1 : Int32) (x2 : Int32) (h : Hp) : Prop := ∀ (H : Heap) (locs : List Loc) (ls : Array Slot) (cells slots : Nat), cells + (2) ≤ 2 → slots + (12) ≤ 12 → WS D cy s0 s h H locs → lv_has ls 4 [(0, .ref x0), (1, .int x1), (2, .int x2)] → W p l e rX9_power s m args below meth c H locs cells slots (vx_MQ below (QX D cy s0 (rxV r.1) r.2) (XX D cy s0 (rxV r.1) r.2) args s 2 12 (fun q => s0 ≤ q)) (F0 m 0 ls [])
set_option maxRecDepth 100000 in
set_option maxHeartbeats 4000000 in
theorem bX9_power_17 {D : va_G} {cy : Nat → ClassId} {s0 : Nat} {p : Program} {l : Launch} {e : Env} {s : State} {m : MethodId} {args : Array Value} {below : List Frame} {meth : Method} {c : Code} (Y : CY D cy s0 l p s m args meth c cX9_power 4 RX9 none) (hn : meth.name = "power") : ∀  (h : Hp) (r : (Unit ⊕ Nat) × Hp), fX9_power_17  h = some r → pX9_power_17 D cy s0 p l e s m args below meth c r  h := by
  intro  h ⟨rv, rh⟩ hf H locs ls cells slots hc hs hw hl
  unfold fX9_power_17 at hf
  have C := Y.1
  have hx := C.1
  have hb := C.2.1
  obtain ⟨rfl, rfl⟩ := sp hf
  exact x_throw Y hw (k := 2) rfl xk2_99_103 (by decide : (150, "k is not -1 to 100") ∈ STR) hl.1 dX9_power_17 dX9_power_20 dX9_power_21 dX9_power_23 dX9_power_26 (Nat.le_of_ble_eq_true rfl) (Nat.le_of_ble_eq_true rfl) (by show _ + 1 ≤ 2; omega) (by show _ + 6 ≤ 12; omega) (by omega) (by omega)
set_option maxRecDepth 100000 in
set_option maxHeartbeats 4000000 in
theorem bX9_power {D : va_G} {cy : Nat → ClassId} {s0 : Nat} {p : Program} {l : Launch} {e : Env} {s : State} {m : MethodId} {args : Array Value} {below : List Frame} {meth : Method} {c : Code} (Y : CY D cy s0 l p s m args meth c cX9_power 4 RX9 none) (hn : meth.name = "power") : ∀ (x0 : Nat) (x1 : Int32) (x2 : Int32) (h : Hp) (r : (Unit ⊕ Nat) × Hp), fX9_power x0 x1 x2 h = some r → pX9_power D cy s0 p l e s m args below meth c r x0 x1 x2 h := by
  intro x0 x1 x2 h ⟨rv, rh⟩ hf H locs ls cells slots hc hs hw hl
  unfold fX9_power at hf
  have C := Y.1
  have hx := C.1
  have hb := C.2.1
  refine lv_aload_n hx hb dX9_power_0 rfl (lv_at hl 0 rfl) ?_
  refine lv_iload_n hx hb dX9_power_1 rfl (lv_at hl 1 rfl) ?_
  obtain ⟨kb1, hf⟩ := ig hf
  rcases obx hf with ⟨z1, h1, e1, hf⟩ | ⟨q1, h1, e1, hf⟩
  · refine x_ret (v := (some (va_rf z1))) rfl hw (x_runV C Y.2.1 hw (mX9_nodeAt Y.2.2.1 e1) kXX9_nodeAt ck9 rfl kb1 w281 w283 v0 ⟨Nat.le_of_ble_eq_true rfl, Nat.le_of_ble_eq_true rfl⟩ rfl hl.1 (rest := []) rfl (Nat.le_of_ble_eq_true rfl) dX9_power_2 (mc := 1) (ms := 6) rfl rfl ⟨by show _ + 1 ≤ 2; omega, by show _ + 6 ≤ 12; omega⟩) (fun H locs hw => ?_)
    cases z1 with
    | none =>
      have hf := on_n hf
      cases hf
    | some a2 =>
      have hf := on_s hf
      refine W.eq (g2 := F0 m 5 ls [.ref a2]) rfl ?_
      refine lv_astore_n (lv' := [(3, .ref a2), (0, .ref x0), (1, .int x1), (2, .int x2)]) hx hb dX9_power_5 rfl hl (by decide) rfl (fun ls hl => ?_)
      refine lv_iload_n hx hb dX9_power_6 rfl (lv_at hl 3 rfl) ?_
      refine lv_iconst (v := (-1 : Int32)) hx hb dX9_power_7 (by decide) ?_
      refine lv_icmp_lt (tgt := 17) hx hb dX9_power_8 (by decide) (fun c3 => ?_) (fun c3 => ?_)
      · have hf := ip hf c3
        exact bX9_power_17 Y hn _ _ hf _ _ _ _ _ (by omega) (by omega) hw (lv_sub hl [] rfl)
      · have hf := ie hf c3
        refine lv_iload_n hx hb dX9_power_11 rfl (lv_at hl 3 rfl) ?_
        refine lv_bipush (v := (100 : Int32)) hx hb dX9_power_12 (by decide) ?_
        refine lv_icmp_le (tgt := 27) hx hb dX9_power_14 (by decide) (fun c4 => ?_) (fun c4 => ?_)
        · have hf := ip hf c4
          refine lv_aload_n hx hb dX9_power_27 rfl (lv_at hl 0 rfl) ?_
          obtain ⟨z5, e5, hf⟩ := ob hf
          refine r_gR C hw e5 ck5 rfl (by decide) w190 dX9_power_28 ?_
          cases z5 with
          | none =>
            have hf := on_n hf
            cases hf
          | some a6 =>
            have hf := on_s hf
            refine W.eq (g2 := F0 m 31 ls [.ref a6]) rfl ?_
            refine lv_iload_n hx hb dX9_power_31 rfl (lv_at hl 3 rfl) ?_
            obtain ⟨h7, e7, hf⟩ := ob hf
            refine r_pI C hw e7 ck1 rfl (by decide) rfl w173 (Or.inl rfl) dX9_power_32 (fun H locs hw => ?_)
            obtain ⟨rfl, rfl⟩ := sp hf
            exact x_vret Y hw rfl (by omega) (by omega) dX9_power_35
        · have hf := ie hf c4
          exact bX9_power_17 Y hn _ _ hf _ _ _ _ _ (by omega) (by omega) hw (lv_sub hl [] rfl)
  · obtain ⟨rfl, rfl⟩ := sp hf
    exact x_thr (k := q1) rfl rfl Y hw (x_runV C Y.2.1 hw (mX9_nodeAt Y.2.2.1 e1) kXX9_nodeAt ck9 rfl kb1 w281 w283 v0 ⟨Nat.le_of_ble_eq_true rfl, Nat.le_of_ble_eq_true rfl⟩ rfl hl.1 (rest := []) rfl (Nat.le_of_ble_eq_true rfl) dX9_power_2 (mc := 1) (ms := 6) rfl rfl ⟨by show _ + 1 ≤ 2; omega, by show _ + 6 ≤ 12; omega⟩) (by omega) (by omega)
theorem kXX9_power : MK yX9_power cX9_power 4 none 2 := ⟨w820, w1, by decide +kernel⟩
theorem mX9_power {D : va_G} {cy : Nat → ClassId} {s0 : Nat} {l : Launch} {x0 : Nat} {x1 : Int32} {x2 : Int32} {h : Hp} {v : (Unit ⊕ Nat)} {h1 : Hp} (hst : l.stackTraces = false) (hf : fX9_power x0 x1 x2 h = some (v, h1)) : XT D cy s0 l yX9_power cX9_power 4 none rX9_power [.ref x0, .int x1, .int x2] h (rxV v) h1 := by
  refine XT.of hst (by decide +kernel) (Nat.le_of_ble_eq_true rfl) ?_
  intro p e s m below meth c H locs ls Y hn hw hl
  exact bX9_power Y hn _ _ _ _ _ hf _ _ _ _ _ (Nat.le_of_ble_eq_true rfl) (Nat.le_of_ble_eq_true rfl) hw hl
abbrev rX9_propose : Room := { frames := 7, cells := 4, slots := 21, locals := 113 }
abbrev pX9_propose (D : va_G) (cy : Nat → ClassId) (s0 : Nat) (p : Program) (l : Launch) (e : Env) (s : State) (m : MethodId) (args : Array Value) (below : List Frame) (meth : Method) (c : Code) (r : (Int32 ⊕ Nat) × Hp) (x0 : Nat) (x1 : Int32) (x2 : Int32) (x3 : Int32) (x4 : Int32) (h : Hp) : Prop := ∀ (H : Heap) (locs : List Loc) (ls : Array Slot) (cells slots : Nat), cells + (4) ≤ 4 → slots + (21) ≤ 21 → WS D cy s0 s h H locs → lv_has ls 7 [(0, .ref x0), (1, .int x1), (2, .int x2), (3, .int x3), (4, .int x4)] → W p l e rX9_propose s m args below meth c H locs cells slots (vx_MQ below (QX D cy s0 (rxI r.1) r.2) (XX D cy s0 (rxI r.1) r.2) args s 4 21 (fun q => s0 ≤ q)) (F0 m 0 ls [])
set_option maxRecDepth 100000 in
set_option maxHeartbeats 4000000 in
theorem bX9_propose {D : va_G} {cy : Nat → ClassId} {s0 : Nat} {p : Program} {l : Launch} {e : Env} {s : State} {m : MethodId} {args : Array Value} {below : List Frame} {meth : Method} {c : Code} (Y : CY D cy s0 l p s m args meth c cX9_propose 7 RX9 (some .int)) (hn : meth.name = "propose") : ∀ (x0 : Nat) (x1 : Int32) (x2 : Int32) (x3 : Int32) (x4 : Int32) (h : Hp) (r : (Int32 ⊕ Nat) × Hp), fX9_propose x0 x1 x2 x3 x4 h = some r → pX9_propose D cy s0 p l e s m args below meth c r x0 x1 x2 x3 x4 h := by
  intro x0 x1 x2 x3 x4 h ⟨rv, rh⟩ hf H locs ls cells slots hc hs hw hl
  unfold fX9_propose at hf
  have C := Y.1
  have hx := C.1
  have hb := C.2.1
  refine lv_aload_n hx hb dX9_propose_0 rfl (lv_at hl 0 rfl) ?_
  refine lv_iload_n hx hb dX9_propose_1 rfl (lv_at hl 1 rfl) ?_
  obtain ⟨kb1, hf⟩ := ig hf
  rcases obx hf with ⟨z1, h1, e1, hf⟩ | ⟨q1, h1, e1, hf⟩
  · refine x_ret (v := (some (va_rf z1))) rfl hw (x_runV C Y.2.1 hw (mX9_nodeAt Y.2.2.1 e1) kXX9_nodeAt ck9 rfl kb1 w281 w283 v0 ⟨Nat.le_of_ble_eq_true rfl, Nat.le_of_ble_eq_true rfl⟩ rfl hl.1 (rest := []) rfl (Nat.le_of_ble_eq_true rfl) dX9_propose_2 (mc := 1) (ms := 6) rfl rfl ⟨by show _ + 1 ≤ 4; omega, by show _ + 6 ≤ 21; omega⟩) (fun H locs hw => ?_)
    cases z1 with
    | none =>
      have hf := on_n hf
      cases hf
    | some a2 =>
      have hf := on_s hf
      refine W.eq (g2 := F0 m 5 ls [.ref a2]) rfl ?_
      refine lv_astore (lv' := [(5, .ref a2), (0, .ref x0), (1, .int x1), (2, .int x2), (3, .int x3), (4, .int x4)]) hx hb dX9_propose_5 hl (by decide) rfl (fun ls hl => ?_)
      obtain ⟨h3, e3, hf⟩ := ob hf
      refine r_newN C hw e3 ck0 w739 (by show _ + 1 ≤ 4; omega) (by show _ + 7 ≤ 21; omega) dX9_propose_7 (fun H hw => ?_)
      refine lv_dup hx hb dX9_propose_10 rfl ?_
      refine lv_iload_n hx hb dX9_propose_11 rfl (lv_at hl 3 rfl) ?_
      refine lv_iload_n hx hb dX9_propose_12 rfl (lv_at hl 4 rfl) ?_
      refine lv_iload hx hb dX9_propose_13 (lv_at hl 5 rfl) ?_
      refine lv_aload_n hx hb dX9_propose_15 rfl (lv_at hl 1 rfl) ?_
      obtain ⟨z4, e4, hf⟩ := ob hf
      refine r_gI C hw e4 ck9 rfl (by decide) w241 dX9_propose_16 ?_
      refine lv_aload_n hx hb dX9_propose_19 rfl (lv_at hl 1 rfl) ?_
      obtain ⟨z5, e5, hf⟩ := ob hf
      refine r_gI C hw e5 ck9 rfl (by decide) w242 dX9_propose_20 ?_
      refine lv_aload_n hx hb dX9_propose_23 rfl (lv_at hl 1 rfl) ?_
      obtain ⟨z6, e6, hf⟩ := ob hf
      refine r_gI C hw e6 ck9 rfl (by decide) w243 dX9_propose_24 ?_
      refine lv_aload_n hx hb dX9_propose_27 rfl (lv_at hl 1 rfl) ?_
      obtain ⟨z7, e7, hf⟩ := ob hf
      refine r_gI C hw e7 ck9 rfl (by decide) w244 dX9_propose_28 ?_
      obtain ⟨z8, h8, e8, hf⟩ := ob2 hf
      refine r_callI C hw (mX0_init e8) kXX0_init rfl w740 w497 ⟨Nat.le_of_ble_eq_true rfl, Nat.le_of_ble_eq_true rfl⟩ rfl hl.1 (rest := [.ref (hZ h1)]) rfl (Nat.le_of_ble_eq_true rfl) dX9_propose_31 (mc := 0) (ms := 0) rfl rfl ⟨by show _ + 0 ≤ 4; omega, by show _ + 0 ≤ 21; omega⟩ (fun H locs hw => ?_)
      refine W.eq (g2 := F0 m 34 ls [.ref (hZ h1)]) rfl ?_
      refine lv_astore (lv' := [(6, .ref (hZ h1)), (5, .ref a2), (0, .ref x0), (1, .int x1), (2, .int x2), (3, .int x3), (4, .int x4)]) hx hb dX9_propose_34 hl (by decide) rfl (fun ls hl => ?_)
      refine lv_aload hx hb dX9_propose_36 (lv_at hl 0 rfl) ?_
      obtain ⟨kb9, hf⟩ := ig hf
      obtain ⟨z9, h9, e9, hf⟩ := ob2 hf
      refine r_callV C hw (mX0_isLegal e9) kXX0_isLegal ck0 rfl kb9 w741 w742 w743 ⟨Nat.le_of_ble_eq_true rfl, Nat.le_of_ble_eq_true rfl⟩ rfl hl.1 (rest := []) rfl (Nat.le_of_ble_eq_true rfl) dX9_propose_38 (mc := 0) (ms := 0) rfl rfl ⟨by show _ + 0 ≤ 4; omega, by show _ + 0 ≤ 21; omega⟩ (fun H locs hw => ?_)
      refine W.eq (g2 := F0 m 41 ls [.int z9]) rfl ?_
      refine lv_if_ne (tgt := 54) hx hb dX9_propose_41 (by decide) (fun c10 => ?_) (fun c10 => ?_)
      · have hf := ie hf c10
        refine lv_aload hx hb dX9_propose_54 (lv_at hl 1 rfl) ?_
        rcases obx hf with ⟨z11, h11, e11, hf⟩ | ⟨q11, h11, e11, hf⟩
        · refine x_ret (v := none) rfl hw (x_runS C Y.2.1 hw (mX9_requireWorkingLeader Y.2.2.1 e11) kXX9_requireWorkingLeader w763 w764 ⟨Nat.le_of_ble_eq_true rfl, Nat.le_of_ble_eq_true rfl⟩ rfl hl.1 (rest := []) rfl (Nat.le_of_ble_eq_true rfl) dX9_propose_56 (mc := 1) (ms := 6) rfl rfl ⟨by show _ + 1 ≤ 4; omega, by show _ + 6 ≤ 21; omega⟩) (fun H locs hw => ?_)
          refine W.eq (g2 := F0 m 59 ls []) rfl ?_
          refine lv_aload hx hb dX9_propose_59 (lv_at hl 1 rfl) ?_
          refine lv_aload hx hb dX9_propose_61 (lv_at hl 0 rfl) ?_
          obtain ⟨kb12, hf⟩ := ig hf
          obtain ⟨z12, h12, e12, hf⟩ := ob2 hf
          refine r_callV C hw (mX5_lengthenLog e12) kXX5_lengthenLog ck5 rfl kb12 w767 w530 w531 ⟨Nat.le_of_ble_eq_true rfl, Nat.le_of_ble_eq_true rfl⟩ rfl hl.1 (rest := []) rfl (Nat.le_of_ble_eq_true rfl) dX9_propose_63 (mc := 1) (ms := 2) rfl rfl ⟨by show _ + 1 ≤ 4; omega, by show _ + 2 ≤ 21; omega⟩ (fun H locs hw => ?_)
          refine W.eq (g2 := F0 m 66 ls [.int z12]) rfl ?_
          refine lv_if_eq (tgt := 80) hx hb dX9_propose_66 (by decide) (fun c13 => ?_) (fun c13 => ?_)
          · have hf := ip hf c13
            refine lv_iconst (v := (0 : Int32)) hx hb dX9_propose_80 (by decide) ?_
            obtain ⟨rfl, rfl⟩ := sp hf
            exact x_iret Y hw rfl rfl (by omega) (by omega) dX9_propose_81
          · have hf := ie hf c13
            refine lv_aload hx hb dX9_propose_69 (lv_at hl 1 rfl) ?_
            obtain ⟨z14, e14, hf⟩ := ob hf
            refine r_gR C hw e14 ck5 rfl (by decide) w190 dX9_propose_71 ?_
            cases z14 with
            | none =>
              have hf := on_n hf
              cases hf
            | some a15 =>
              have hf := on_s hf
              refine W.eq (g2 := F0 m 74 ls [.ref a15]) rfl ?_
              obtain ⟨z16, e16, hf⟩ := ob hf
              refine r_gI C hw e16 ck1 rfl (by decide) w168 dX9_propose_74 ?_
              refine lv_goto (tgt := 81) hx hb dX9_propose_77 (by decide) ?_
              obtain ⟨rfl, rfl⟩ := sp hf
              exact x_iret Y hw rfl rfl (by omega) (by omega) dX9_propose_81
        · obtain ⟨rfl, rfl⟩ := sp hf
          exact x_thr (k := q11) rfl rfl Y hw (x_runS C Y.2.1 hw (mX9_requireWorkingLeader Y.2.2.1 e11) kXX9_requireWorkingLeader w763 w764 ⟨Nat.le_of_ble_eq_true rfl, Nat.le_of_ble_eq_true rfl⟩ rfl hl.1 (rest := []) rfl (Nat.le_of_ble_eq_true rfl) dX9_propose_56 (mc := 1) (ms := 6) rfl rfl ⟨by show _ + 1 ≤ 4; omega, by show _ + 6 ≤ 21; omega⟩) (by omega) (by omega)
      · have hf := ip hf c10
        obtain ⟨rfl, rfl⟩ := sp hf
        exact x_throw Y hw (k := 2) rfl xk2_99_103 (by decide : (101, "no such COMMAND") ∈ STR) hl.1 dX9_propose_44 dX9_propose_47 dX9_propose_48 dX9_propose_50 dX9_propose_53 (Nat.le_of_ble_eq_true rfl) (Nat.le_of_ble_eq_true rfl) (by show _ + 1 ≤ 4; omega) (by show _ + 6 ≤ 21; omega) (by omega) (by omega)
  · obtain ⟨rfl, rfl⟩ := sp hf
    exact x_thr (k := q1) rfl rfl Y hw (x_runV C Y.2.1 hw (mX9_nodeAt Y.2.2.1 e1) kXX9_nodeAt ck9 rfl kb1 w281 w283 v0 ⟨Nat.le_of_ble_eq_true rfl, Nat.le_of_ble_eq_true rfl⟩ rfl hl.1 (rest := []) rfl (Nat.le_of_ble_eq_true rfl) dX9_propose_2 (mc := 1) (ms := 6) rfl rfl ⟨by show _ + 1 ≤ 4; omega, by show _ + 6 ≤ 21; omega⟩) (by omega) (by omega)
theorem kXX9_propose : MK yX9_propose cX9_propose 7 (some .int) 4 := ⟨w738, w1, by decide +kernel⟩
theorem mX9_propose {D : va_G} {cy : Nat → ClassId} {s0 : Nat} {l : Launch} {x0 : Nat} {x1 : Int32} {x2 : Int32} {x3 : Int32} {x4 : Int32} {h : Hp} {v : (Int32 ⊕ Nat)} {h1 : Hp} (hst : l.stackTraces = false) (hf : fX9_propose x0 x1 x2 x3 x4 h = some (v, h1)) : XT D cy s0 l yX9_propose cX9_propose 7 (some .int) rX9_propose [.ref x0, .int x1, .int x2, .int x3, .int x4] h (rxI v) h1 := by
  refine XT.of hst (by decide +kernel) (Nat.le_of_ble_eq_true rfl) ?_
  intro p e s m below meth c H locs ls Y hn hw hl
  exact bX9_propose Y hn _ _ _ _ _ _ _ hf _ _ _ _ _ (Nat.le_of_ble_eq_true rfl) (Nat.le_of_ble_eq_true rfl) hw hl
abbrev rX9_result : Room := { frames := 7, cells := 2, slots := 12, locals := 113 }
abbrev pX9_result (D : va_G) (cy : Nat → ClassId) (s0 : Nat) (p : Program) (l : Launch) (e : Env) (s : State) (m : MethodId) (args : Array Value) (below : List Frame) (meth : Method) (c : Code) (r : (Int32 ⊕ Nat) × Hp) (x0 : Nat) (x1 : Int32) (x2 : Int32) (h : Hp) : Prop := ∀ (H : Heap) (locs : List Loc) (ls : Array Slot) (cells slots : Nat), cells + (2) ≤ 2 → slots + (12) ≤ 12 → WS D cy s0 s h H locs → lv_has ls 4 [(0, .ref x0), (1, .int x1), (2, .int x2)] → W p l e rX9_result s m args below meth c H locs cells slots (vx_MQ below (QX D cy s0 (rxI r.1) r.2) (XX D cy s0 (rxI r.1) r.2) args s 2 12 (fun q => s0 ≤ q)) (F0 m 0 ls [])
set_option maxRecDepth 100000 in
set_option maxHeartbeats 4000000 in
theorem bX9_result {D : va_G} {cy : Nat → ClassId} {s0 : Nat} {p : Program} {l : Launch} {e : Env} {s : State} {m : MethodId} {args : Array Value} {below : List Frame} {meth : Method} {c : Code} (Y : CY D cy s0 l p s m args meth c cX9_result 4 RX9 (some .int)) (hn : meth.name = "result") : ∀ (x0 : Nat) (x1 : Int32) (x2 : Int32) (h : Hp) (r : (Int32 ⊕ Nat) × Hp), fX9_result x0 x1 x2 h = some r → pX9_result D cy s0 p l e s m args below meth c r x0 x1 x2 h := by
  intro x0 x1 x2 h ⟨rv, rh⟩ hf H locs ls cells slots hc hs hw hl
  unfold fX9_result at hf
  have C := Y.1
  have hx := C.1
  have hb := C.2.1
  refine lv_aload_n hx hb dX9_result_0 rfl (lv_at hl 0 rfl) ?_
  refine lv_iload_n hx hb dX9_result_1 rfl (lv_at hl 1 rfl) ?_
  obtain ⟨kb1, hf⟩ := ig hf
  rcases obx hf with ⟨z1, h1, e1, hf⟩ | ⟨q1, h1, e1, hf⟩
  · refine x_ret (v := (some (va_rf z1))) rfl hw (x_runV C Y.2.1 hw (mX9_nodeAt Y.2.2.1 e1) kXX9_nodeAt ck9 rfl kb1 w281 w283 v0 ⟨Nat.le_of_ble_eq_true rfl, Nat.le_of_ble_eq_true rfl⟩ rfl hl.1 (rest := []) rfl (Nat.le_of_ble_eq_true rfl) dX9_result_2 (mc := 1) (ms := 6) rfl rfl ⟨by show _ + 1 ≤ 2; omega, by show _ + 6 ≤ 12; omega⟩) (fun H locs hw => ?_)
    cases z1 with
    | none =>
      have hf := on_n hf
      cases hf
    | some a2 =>
      have hf := on_s hf
      refine W.eq (g2 := F0 m 5 ls [.ref a2]) rfl ?_
      refine lv_astore_n (lv' := [(3, .ref a2), (0, .ref x0), (1, .int x1), (2, .int x2)]) hx hb dX9_result_5 rfl hl (by decide) rfl (fun ls hl => ?_)
      refine lv_aload_n hx hb dX9_result_6 rfl (lv_at hl 0 rfl) ?_
      refine lv_iload_n hx hb dX9_result_7 rfl (lv_at hl 3 rfl) ?_
      obtain ⟨kb3, hf⟩ := ig hf
      obtain ⟨z3, h3, e3, hf⟩ := ob2 hf
      refine r_callV C hw (mX5_knowsResult e3) kXX5_knowsResult ck5 rfl kb3 w830 w831 w832 ⟨Nat.le_of_ble_eq_true rfl, Nat.le_of_ble_eq_true rfl⟩ rfl hl.1 (rest := []) rfl (Nat.le_of_ble_eq_true rfl) dX9_result_8 (mc := 0) (ms := 0) rfl rfl ⟨by show _ + 0 ≤ 2; omega, by show _ + 0 ≤ 12; omega⟩ (fun H locs hw => ?_)
      refine W.eq (g2 := F0 m 11 ls [.int z3]) rfl ?_
      refine lv_if_ne (tgt := 24) hx hb dX9_result_11 (by decide) (fun c4 => ?_) (fun c4 => ?_)
      · have hf := ie hf c4
        refine lv_aload_n hx hb dX9_result_24 rfl (lv_at hl 0 rfl) ?_
        obtain ⟨z5, e5, hf⟩ := ob hf
        refine r_gR C hw e5 ck5 rfl (by decide) w194 dX9_result_25 ?_
        cases z5 with
        | none =>
          have hf := on_n hf
          cases hf
        | some a6 =>
          have hf := on_s hf
          refine W.eq (g2 := F0 m 28 ls [.ref a6]) rfl ?_
          refine lv_iload_n hx hb dX9_result_28 rfl (lv_at hl 3 rfl) ?_
          obtain ⟨z7, e7, hf⟩ := ob hf
          refine r_iald C hw e7 dX9_result_29 ?_
          obtain ⟨rfl, rfl⟩ := sp hf
          exact x_iret Y hw rfl rfl (by omega) (by omega) dX9_result_30
      · have hf := ip hf c4
        obtain ⟨rfl, rfl⟩ := sp hf
        exact x_throw3 (n4 := 2) Y hw rfl xk3_159_163 (by decide : (161, "that ENTRY was not applied here") ∈ STR) hl.1 dX9_result_14 dX9_result_17 (Or.inl ⟨rfl, dX9_result_18⟩) dX9_result_20 dX9_result_23 (Nat.le_of_ble_eq_true rfl) (Nat.le_of_ble_eq_true rfl) (by show _ + 1 ≤ 2; omega) (by show _ + 6 ≤ 12; omega) (by omega) (by omega)
  · obtain ⟨rfl, rfl⟩ := sp hf
    exact x_thr (k := q1) rfl rfl Y hw (x_runV C Y.2.1 hw (mX9_nodeAt Y.2.2.1 e1) kXX9_nodeAt ck9 rfl kb1 w281 w283 v0 ⟨Nat.le_of_ble_eq_true rfl, Nat.le_of_ble_eq_true rfl⟩ rfl hl.1 (rest := []) rfl (Nat.le_of_ble_eq_true rfl) dX9_result_2 (mc := 1) (ms := 6) rfl rfl ⟨by show _ + 1 ≤ 2; omega, by show _ + 6 ≤ 12; omega⟩) (by omega) (by omega)
theorem kXX9_result : MK yX9_result cX9_result 4 (some .int) 2 := ⟨w829, w1, by decide +kernel⟩
theorem mX9_result {D : va_G} {cy : Nat → ClassId} {s0 : Nat} {l : Launch} {x0 : Nat} {x1 : Int32} {x2 : Int32} {h : Hp} {v : (Int32 ⊕ Nat)} {h1 : Hp} (hst : l.stackTraces = false) (hf : fX9_result x0 x1 x2 h = some (v, h1)) : XT D cy s0 l yX9_result cX9_result 4 (some .int) rX9_result [.ref x0, .int x1, .int x2] h (rxI v) h1 := by
  refine XT.of hst (by decide +kernel) (Nat.le_of_ble_eq_true rfl) ?_
  intro p e s m below meth c H locs ls Y hn hw hl
  exact bX9_result Y hn _ _ _ _ _ hf _ _ _ _ _ (Nat.le_of_ble_eq_true rfl) (Nat.le_of_ble_eq_true rfl) hw hl
abbrev rX9_shrink : Room := { frames := 7, cells := 12, slots := 886, locals := 113 }
abbrev pX9_shrink (D : va_G) (cy : Nat → ClassId) (s0 : Nat) (p : Program) (l : Launch) (e : Env) (s : State) (m : MethodId) (args : Array Value) (below : List Frame) (meth : Method) (c : Code) (r : (Int32 ⊕ Nat) × Hp) (x0 : Nat) (x1 : Int32) (h : Hp) : Prop := ∀ (H : Heap) (locs : List Loc) (ls : Array Slot) (cells slots : Nat), cells + (12) ≤ 12 → slots + (886) ≤ 886 → WS D cy s0 s h H locs → lv_has ls 3 [(0, .ref x0), (1, .int x1)] → W p l e rX9_shrink s m args below meth c H locs cells slots (vx_MQ below (QX D cy s0 (rxI r.1) r.2) (XX D cy s0 (rxI r.1) r.2) args s 12 886 (fun q => s0 ≤ q)) (F0 m 0 ls [])
set_option maxRecDepth 100000 in
set_option maxHeartbeats 4000000 in
theorem bX9_shrink {D : va_G} {cy : Nat → ClassId} {s0 : Nat} {p : Program} {l : Launch} {e : Env} {s : State} {m : MethodId} {args : Array Value} {below : List Frame} {meth : Method} {c : Code} (Y : CY D cy s0 l p s m args meth c cX9_shrink 3 RX9 (some .int)) (hn : meth.name = "shrink") : ∀ (x0 : Nat) (x1 : Int32) (h : Hp) (r : (Int32 ⊕ Nat) × Hp), fX9_shrink x0 x1 h = some r → pX9_shrink D cy s0 p l e s m args below meth c r x0 x1 h := by
  intro x0 x1 h ⟨rv, rh⟩ hf H locs ls cells slots hc hs hw hl
  unfold fX9_shrink at hf
  have C := Y.1
  have hx := C.1
  have hb := C.2.1
  refine lv_aload_n hx hb dX9_shrink_0 rfl (lv_at hl 0 rfl) ?_
  refine lv_iload_n hx hb dX9_shrink_1 rfl (lv_at hl 1 rfl) ?_
  obtain ⟨kb1, hf⟩ := ig hf
  rcases obx hf with ⟨z1, h1, e1, hf⟩ | ⟨q1, h1, e1, hf⟩
  · refine x_ret (v := (some (va_rf z1))) rfl hw (x_runV C Y.2.1 hw (mX9_nodeAt Y.2.2.1 e1) kXX9_nodeAt ck9 rfl kb1 w281 w283 v0 ⟨Nat.le_of_ble_eq_true rfl, Nat.le_of_ble_eq_true rfl⟩ rfl hl.1 (rest := []) rfl (Nat.le_of_ble_eq_true rfl) dX9_shrink_2 (mc := 1) (ms := 6) rfl rfl ⟨by show _ + 1 ≤ 12; omega, by show _ + 6 ≤ 886; omega⟩) (fun H locs hw => ?_)
    cases z1 with
    | none =>
      have hf := on_n hf
      cases hf
    | some a2 =>
      have hf := on_s hf
      refine W.eq (g2 := F0 m 5 ls [.ref a2]) rfl ?_
      refine lv_astore_n (lv' := [(2, .ref a2), (0, .ref x0), (1, .int x1)]) hx hb dX9_shrink_5 rfl hl (by decide) rfl (fun ls hl => ?_)
      refine lv_aload_n hx hb dX9_shrink_6 rfl (lv_at hl 0 rfl) ?_
      rcases obx hf with ⟨z3, h3, e3, hf⟩ | ⟨q3, h3, e3, hf⟩
      · refine x_ret (v := none) rfl hw (x_runS C Y.2.1 hw (mX9_requireUp Y.2.2.1 e3) kXX9_requireUp w783 w784 ⟨Nat.le_of_ble_eq_true rfl, Nat.le_of_ble_eq_true rfl⟩ rfl hl.1 (rest := []) rfl (Nat.le_of_ble_eq_true rfl) dX9_shrink_7 (mc := 1) (ms := 6) rfl rfl ⟨by show _ + 1 ≤ 12; omega, by show _ + 6 ≤ 886; omega⟩) (fun H locs hw => ?_)
        refine W.eq (g2 := F0 m 10 ls []) rfl ?_
        refine lv_aload_n hx hb dX9_shrink_10 rfl (lv_at hl 0 rfl) ?_
        obtain ⟨z4, e4, hf⟩ := ob hf
        refine r_gI C hw e4 ck5 rfl (by decide) w199 dX9_shrink_11 ?_
        refine lv_aload_n hx hb dX9_shrink_14 rfl (lv_at hl 0 rfl) ?_
        obtain ⟨z5, e5, hf⟩ := ob hf
        refine r_gR C hw e5 ck5 rfl (by decide) w190 dX9_shrink_15 ?_
        cases z5 with
        | none =>
          have hf := on_n hf
          cases hf
        | some a6 =>
          have hf := on_s hf
          refine W.eq (g2 := F0 m 18 ls [.ref a6, .int z4]) rfl ?_
          obtain ⟨z7, e7, hf⟩ := ob hf
          refine r_gR C hw e7 ck1 rfl (by decide) w170 dX9_shrink_18 ?_
          cases z7 with
          | none =>
            have hf := on_n hf
            cases hf
          | some a8 =>
            have hf := on_s hf
            refine W.eq (g2 := F0 m 21 ls [.ref a8, .int z4]) rfl ?_
            obtain ⟨z9, e9, hf⟩ := ob hf
            refine r_gI C hw e9 ck6 rfl (by decide) w134 dX9_shrink_21 ?_
            refine lv_icmp_ne (tgt := 37) hx hb dX9_shrink_24 (by decide) (fun c10 => ?_) (fun c10 => ?_)
            · have hf := ie hf c10
              refine lv_aload_n hx hb dX9_shrink_37 rfl (lv_at hl 0 rfl) ?_
              obtain ⟨kb11, hf⟩ := ig hf
              obtain ⟨z11, h11, e11, hf⟩ := ob2 hf
              refine r_callV C hw (mX5_takeSnapshot e11) kXX5_takeSnapshot ck5 rfl kb11 w788 w789 w790 ⟨Nat.le_of_ble_eq_true rfl, Nat.le_of_ble_eq_true rfl⟩ rfl hl.1 (rest := []) rfl (Nat.le_of_ble_eq_true rfl) dX9_shrink_38 (mc := 10) (ms := 874) rfl rfl ⟨by show _ + 10 ≤ 12; omega, by show _ + 874 ≤ 886; omega⟩ (fun H locs hw => ?_)
              refine W.eq (g2 := F0 m 41 ls []) rfl ?_
              refine lv_aload_n hx hb dX9_shrink_41 rfl (lv_at hl 0 rfl) ?_
              obtain ⟨z12, e12, hf⟩ := ob hf
              refine r_gR C hw e12 ck5 rfl (by decide) w190 dX9_shrink_42 ?_
              cases z12 with
              | none =>
                have hf := on_n hf
                cases hf
              | some a13 =>
                have hf := on_s hf
                refine W.eq (g2 := F0 m 45 ls [.ref a13]) rfl ?_
                obtain ⟨z14, e14, hf⟩ := ob hf
                refine r_gR C hw e14 ck1 rfl (by decide) w170 dX9_shrink_45 ?_
                cases z14 with
                | none =>
                  have hf := on_n hf
                  cases hf
                | some a15 =>
                  have hf := on_s hf
                  refine W.eq (g2 := F0 m 48 ls [.ref a15]) rfl ?_
                  obtain ⟨z16, e16, hf⟩ := ob hf
                  refine r_gI C hw e16 ck6 rfl (by decide) w134 dX9_shrink_48 ?_
                  obtain ⟨rfl, rfl⟩ := sp hf
                  exact x_iret Y hw rfl rfl (by omega) (by omega) dX9_shrink_51
            · have hf := ip hf c10
              obtain ⟨rfl, rfl⟩ := sp hf
              exact x_throw Y hw (k := 1) rfl xk1_52_56 (by decide : (137, "COMMIT is BASE") ∈ STR) hl.1 dX9_shrink_27 dX9_shrink_30 dX9_shrink_31 dX9_shrink_33 dX9_shrink_36 (Nat.le_of_ble_eq_true rfl) (Nat.le_of_ble_eq_true rfl) (by show _ + 1 ≤ 12; omega) (by show _ + 6 ≤ 886; omega) (by omega) (by omega)
      · obtain ⟨rfl, rfl⟩ := sp hf
        exact x_thr (k := q3) rfl rfl Y hw (x_runS C Y.2.1 hw (mX9_requireUp Y.2.2.1 e3) kXX9_requireUp w783 w784 ⟨Nat.le_of_ble_eq_true rfl, Nat.le_of_ble_eq_true rfl⟩ rfl hl.1 (rest := []) rfl (Nat.le_of_ble_eq_true rfl) dX9_shrink_7 (mc := 1) (ms := 6) rfl rfl ⟨by show _ + 1 ≤ 12; omega, by show _ + 6 ≤ 886; omega⟩) (by omega) (by omega)
  · obtain ⟨rfl, rfl⟩ := sp hf
    exact x_thr (k := q1) rfl rfl Y hw (x_runV C Y.2.1 hw (mX9_nodeAt Y.2.2.1 e1) kXX9_nodeAt ck9 rfl kb1 w281 w283 v0 ⟨Nat.le_of_ble_eq_true rfl, Nat.le_of_ble_eq_true rfl⟩ rfl hl.1 (rest := []) rfl (Nat.le_of_ble_eq_true rfl) dX9_shrink_2 (mc := 1) (ms := 6) rfl rfl ⟨by show _ + 1 ≤ 12; omega, by show _ + 6 ≤ 886; omega⟩) (by omega) (by omega)
theorem kXX9_shrink : MK yX9_shrink cX9_shrink 3 (some .int) 1 := ⟨w782, w1, by decide +kernel⟩
theorem mX9_shrink {D : va_G} {cy : Nat → ClassId} {s0 : Nat} {l : Launch} {x0 : Nat} {x1 : Int32} {h : Hp} {v : (Int32 ⊕ Nat)} {h1 : Hp} (hst : l.stackTraces = false) (hf : fX9_shrink x0 x1 h = some (v, h1)) : XT D cy s0 l yX9_shrink cX9_shrink 3 (some .int) rX9_shrink [.ref x0, .int x1] h (rxI v) h1 := by
  refine XT.of hst (by decide +kernel) (Nat.le_of_ble_eq_true rfl) ?_
  intro p e s m below meth c H locs ls Y hn hw hl
  exact bX9_shrink Y hn _ _ _ _ hf _ _ _ _ _ (Nat.le_of_ble_eq_true rfl) (Nat.le_of_ble_eq_true rfl) hw hl
abbrev rX9_start : Room := { frames := 7, cells := 2, slots := 12, locals := 113 }
abbrev pX9_start (D : va_G) (cy : Nat → ClassId) (s0 : Nat) (p : Program) (l : Launch) (e : Env) (s : State) (m : MethodId) (args : Array Value) (below : List Frame) (meth : Method) (c : Code) (r : (Int32 ⊕ Nat) × Hp) (x0 : Nat) (x1 : Int32) (h : Hp) : Prop := ∀ (H : Heap) (locs : List Loc) (ls : Array Slot) (cells slots : Nat), cells + (2) ≤ 2 → slots + (12) ≤ 12 → WS D cy s0 s h H locs → lv_has ls 3 [(0, .ref x0), (1, .int x1)] → W p l e rX9_start s m args below meth c H locs cells slots (vx_MQ below (QX D cy s0 (rxI r.1) r.2) (XX D cy s0 (rxI r.1) r.2) args s 2 12 (fun q => s0 ≤ q)) (F0 m 0 ls [])
set_option maxRecDepth 100000 in
set_option maxHeartbeats 4000000 in
theorem bX9_start {D : va_G} {cy : Nat → ClassId} {s0 : Nat} {p : Program} {l : Launch} {e : Env} {s : State} {m : MethodId} {args : Array Value} {below : List Frame} {meth : Method} {c : Code} (Y : CY D cy s0 l p s m args meth c cX9_start 3 RX9 (some .int)) (hn : meth.name = "start") : ∀ (x0 : Nat) (x1 : Int32) (h : Hp) (r : (Int32 ⊕ Nat) × Hp), fX9_start x0 x1 h = some r → pX9_start D cy s0 p l e s m args below meth c r x0 x1 h := by
  intro x0 x1 h ⟨rv, rh⟩ hf H locs ls cells slots hc hs hw hl
  unfold fX9_start at hf
  have C := Y.1
  have hx := C.1
  have hb := C.2.1
  refine lv_aload_n hx hb dX9_start_0 rfl (lv_at hl 0 rfl) ?_
  refine lv_iload_n hx hb dX9_start_1 rfl (lv_at hl 1 rfl) ?_
  obtain ⟨kb1, hf⟩ := ig hf
  rcases obx hf with ⟨z1, h1, e1, hf⟩ | ⟨q1, h1, e1, hf⟩
  · refine x_ret (v := (some (va_rf z1))) rfl hw (x_runV C Y.2.1 hw (mX9_nodeAt Y.2.2.1 e1) kXX9_nodeAt ck9 rfl kb1 w281 w283 v0 ⟨Nat.le_of_ble_eq_true rfl, Nat.le_of_ble_eq_true rfl⟩ rfl hl.1 (rest := []) rfl (Nat.le_of_ble_eq_true rfl) dX9_start_2 (mc := 1) (ms := 6) rfl rfl ⟨by show _ + 1 ≤ 2; omega, by show _ + 6 ≤ 12; omega⟩) (fun H locs hw => ?_)
    cases z1 with
    | none =>
      have hf := on_n hf
      cases hf
    | some a2 =>
      have hf := on_s hf
      refine W.eq (g2 := F0 m 5 ls [.ref a2]) rfl ?_
      refine lv_astore_n (lv' := [(2, .ref a2), (0, .ref x0), (1, .int x1)]) hx hb dX9_start_5 rfl hl (by decide) rfl (fun ls hl => ?_)
      refine lv_aload_n hx hb dX9_start_6 rfl (lv_at hl 0 rfl) ?_
      obtain ⟨z3, e3, hf⟩ := ob hf
      refine r_gI C hw e3 ck5 rfl (by decide) w196 dX9_start_7 ?_
      refine lv_if_eq (tgt := 23) hx hb dX9_start_10 (by decide) (fun c4 => ?_) (fun c4 => ?_)
      · have hf := ip hf c4
        refine lv_aload_n hx hb dX9_start_23 rfl (lv_at hl 0 rfl) ?_
        obtain ⟨kb5, hf⟩ := ig hf
        obtain ⟨z5, h5, e5, hf⟩ := ob2 hf
        refine r_callV C hw (mX5_comeUp e5) kXX5_comeUp ck5 rfl kb5 w810 w811 w812 ⟨Nat.le_of_ble_eq_true rfl, Nat.le_of_ble_eq_true rfl⟩ rfl hl.1 (rest := []) rfl (Nat.le_of_ble_eq_true rfl) dX9_start_24 (mc := 0) (ms := 0) rfl rfl ⟨by show _ + 0 ≤ 2; omega, by show _ + 0 ≤ 12; omega⟩ (fun H locs hw => ?_)
        refine W.eq (g2 := F0 m 27 ls []) rfl ?_
        refine lv_aload_n hx hb dX9_start_27 rfl (lv_at hl 0 rfl) ?_
        obtain ⟨z6, e6, hf⟩ := ob hf
        refine r_gR C hw e6 ck5 rfl (by decide) w190 dX9_start_28 ?_
        cases z6 with
        | none =>
          have hf := on_n hf
          cases hf
        | some a7 =>
          have hf := on_s hf
          refine W.eq (g2 := F0 m 31 ls [.ref a7]) rfl ?_
          obtain ⟨z8, e8, hf⟩ := ob hf
          refine r_gI C hw e8 ck1 rfl (by decide) w168 dX9_start_31 ?_
          obtain ⟨rfl, rfl⟩ := sp hf
          exact x_iret Y hw rfl rfl (by omega) (by omega) dX9_start_34
      · have hf := ie hf c4
        obtain ⟨rfl, rfl⟩ := sp hf
        exact x_throw Y hw (k := 1) rfl xk1_52_56 (by decide : (145, "the NODE is up") ∈ STR) hl.1 dX9_start_13 dX9_start_16 dX9_start_17 dX9_start_19 dX9_start_22 (Nat.le_of_ble_eq_true rfl) (Nat.le_of_ble_eq_true rfl) (by show _ + 1 ≤ 2; omega) (by show _ + 6 ≤ 12; omega) (by omega) (by omega)
  · obtain ⟨rfl, rfl⟩ := sp hf
    exact x_thr (k := q1) rfl rfl Y hw (x_runV C Y.2.1 hw (mX9_nodeAt Y.2.2.1 e1) kXX9_nodeAt ck9 rfl kb1 w281 w283 v0 ⟨Nat.le_of_ble_eq_true rfl, Nat.le_of_ble_eq_true rfl⟩ rfl hl.1 (rest := []) rfl (Nat.le_of_ble_eq_true rfl) dX9_start_2 (mc := 1) (ms := 6) rfl rfl ⟨by show _ + 1 ≤ 2; omega, by show _ + 6 ≤ 12; omega⟩) (by omega) (by omega)
theorem kXX9_start : MK yX9_start cX9_start 3 (some .int) 1 := ⟨w808, w1, by decide +kernel⟩
theorem mX9_start {D : va_G} {cy : Nat → ClassId} {s0 : Nat} {l : Launch} {x0 : Nat} {x1 : Int32} {h : Hp} {v : (Int32 ⊕ Nat)} {h1 : Hp} (hst : l.stackTraces = false) (hf : fX9_start x0 x1 h = some (v, h1)) : XT D cy s0 l yX9_start cX9_start 3 (some .int) rX9_start [.ref x0, .int x1] h (rxI v) h1 := by
  refine XT.of hst (by decide +kernel) (Nat.le_of_ble_eq_true rfl) ?_
  intro p e s m below meth c H locs ls Y hn hw hl
  exact bX9_start Y hn _ _ _ _ hf _ _ _ _ _ (Nat.le_of_ble_eq_true rfl) (Nat.le_of_ble_eq_true rfl) hw hl
