abbrev rX5_sendTo : Room := { frames := 2, cells := 2, slots := 13, locals := 56 }
abbrev pX5_sendTo (D : va_G) (cy : Nat → ClassId) (s0 : Nat) (p : Program) (l : Launch) (e : Env) (s : State) (m : MethodId) (args : Array Value) (below : List Frame) (meth : Method) (c : Code) (r : Unit × Hp) (x0 : Nat) (x1 : Int32) (h : Hp) : Prop := ∀ (H : Heap) (locs : List Loc) (ls : Array Slot) (cells slots : Nat), cells + (2) ≤ 2 → slots + (13) ≤ 13 → WS D cy s0 s h H locs → lv_has ls 5 [(0, .ref x0), (1, .int x1)] → W p l e rX5_sendTo s m args below meth c H locs cells slots (MQ below (QQ D cy s0 none r.2) args s 2 13 (fun q => s0 ≤ q)) (F0 m 0 ls [])
set_option maxRecDepth 100000 in
set_option maxHeartbeats 4000000 in
theorem bX5_sendTo {D : va_G} {cy : Nat → ClassId} {s0 : Nat} {p : Program} {l : Launch} {e : Env} {s : State} {m : MethodId} {args : Array Value} {below : List Frame} {meth : Method} {c : Code} (C : CX D cy s0 p s m args meth c cX5_sendTo 5 RX5 none) (hn : meth.name = "sendTo") : ∀ (x0 : Nat) (x1 : Int32) (h : Hp) (r : Unit × Hp), fX5_sendTo x0 x1 h = some r → pX5_sendTo D cy s0 p l e s m args below meth c r x0 x1 h := by
  intro x0 x1 h ⟨rv, rh⟩ hf H locs ls cells slots hc hs hw hl
  unfold fX5_sendTo at hf
  have hx := C.1
  have hb := C.2.1
  refine lv_aload_n hx hb dX5_sendTo_0 rfl (lv_at hl 0 rfl) ?_
  obtain ⟨z1, e1, hf⟩ := ob hf
  refine r_gR C hw e1 ck5 rfl (by decide) w207 dX5_sendTo_1 ?_
  cases z1 with
  | none =>
    have hf := on_n hf
    cases hf
  | some a2 =>
    have hf := on_s hf
    refine W.eq (g2 := F0 m 4 ls [.ref a2]) rfl ?_
    refine lv_iload_n hx hb dX5_sendTo_4 rfl (lv_at hl 1 rfl) ?_
    obtain ⟨z3, e3, hf⟩ := ob hf
    refine r_iald C hw e3 dX5_sendTo_5 ?_
    refine lv_iconst (v := (1 : Int32)) hx hb dX5_sendTo_6 (by decide) ?_
    refine lv_isub hx hb dX5_sendTo_7 ?_
    refine lv_istore_n (lv' := [(2, .int (z3 - (1 : Int32))), (0, .ref x0), (1, .int x1)]) hx hb dX5_sendTo_8 rfl hl (by decide) rfl (fun ls hl => ?_)
    refine lv_aload_n hx hb dX5_sendTo_9 rfl (lv_at hl 1 rfl) ?_
    obtain ⟨z4, e4, hf⟩ := ob hf
    refine r_gR C hw e4 ck5 rfl (by decide) w189 dX5_sendTo_10 ?_
    cases z4 with
    | none =>
      have hf := on_n hf
      cases hf
    | some a5 =>
      have hf := on_s hf
      refine W.eq (g2 := F0 m 13 ls [.ref a5]) rfl ?_
      obtain ⟨z6, e6, hf⟩ := ob hf
      refine r_gR C hw e6 ck1 rfl (by decide) w171 dX5_sendTo_13 ?_
      cases z6 with
      | none =>
        have hf := on_n hf
        cases hf
      | some a7 =>
        have hf := on_s hf
        refine W.eq (g2 := F0 m 16 ls [.ref a7]) rfl ?_
        refine lv_astore_n (lv' := [(3, .ref a7), (2, .int (z3 - (1 : Int32))), (0, .ref x0), (1, .int x1)]) hx hb dX5_sendTo_16 rfl hl (by decide) rfl (fun ls hl => ?_)
        refine lv_iload_n hx hb dX5_sendTo_17 rfl (lv_at hl 1 rfl) ?_
        refine lv_aload_n hx hb dX5_sendTo_18 rfl (lv_at hl 0 rfl) ?_
        obtain ⟨z8, e8, hf⟩ := ob hf
        refine r_gI C hw e8 ck6 rfl (by decide) w135 dX5_sendTo_19 ?_
        refine lv_icmp_ge (tgt := 71) hx hb dX5_sendTo_22 (by decide) (fun c9 => ?_) (fun c9 => ?_)
        · have hf := ip hf c9
          obtain ⟨h10, e10, hf⟩ := ob hf
          refine r_newN C hw e10 ck4 w398 (by show _ + 1 ≤ 2; omega) (by show _ + 9 ≤ 13; omega) dX5_sendTo_71 (fun H hw => ?_)
          refine lv_dup hx hb dX5_sendTo_74 rfl ?_
          refine lv_iconst (v := (2 : Int32)) hx hb dX5_sendTo_75 (by decide) ?_
          refine lv_aload_n hx hb dX5_sendTo_76 rfl (lv_at hl 2 rfl) ?_
          obtain ⟨z11, e11, hf⟩ := ob hf
          refine r_gI C hw e11 ck5 rfl (by decide) w201 dX5_sendTo_77 ?_
          refine lv_iload_n hx hb dX5_sendTo_80 rfl (lv_at hl 3 rfl) ?_
          refine lv_aload_n hx hb dX5_sendTo_81 rfl (lv_at hl 2 rfl) ?_
          obtain ⟨z12, e12, hf⟩ := ob hf
          refine r_gR C hw e12 ck5 rfl (by decide) w189 dX5_sendTo_82 ?_
          cases z12 with
          | none =>
            have hf := on_n hf
            cases hf
          | some a13 =>
            have hf := on_s hf
            refine W.eq (g2 := F0 m 85 ls [.ref a13, .int x1, .int z11, .int (2 : Int32), .ref (hZ h), .ref (hZ h)]) rfl ?_
            obtain ⟨z14, e14, hf⟩ := ob hf
            refine r_gI C hw e14 ck1 rfl (by decide) w162 dX5_sendTo_85 ?_
            refine lv_iload_n hx hb dX5_sendTo_88 rfl (lv_at hl 1 rfl) ?_
            refine lv_aload_n hx hb dX5_sendTo_89 rfl (lv_at hl 2 rfl) ?_
            obtain ⟨z15, e15, hf⟩ := ob hf
            refine r_gR C hw e15 ck5 rfl (by decide) w189 dX5_sendTo_90 ?_
            cases z15 with
            | none =>
              have hf := on_n hf
              cases hf
            | some a16 =>
              have hf := on_s hf
              refine W.eq (g2 := F0 m 93 ls [.ref a16, .int (z3 - (1 : Int32)), .int z14, .int x1, .int z11, .int (2 : Int32), .ref (hZ h), .ref (hZ h)]) rfl ?_
              refine lv_iload_n hx hb dX5_sendTo_93 rfl (lv_at hl 1 rfl) ?_
              obtain ⟨kb17, hf⟩ := ig hf
              obtain ⟨z17, h17, e17, hf⟩ := ob2 hf
              refine r_callV C hw (mX1_termAt e17) kXX1_termAt ck1 rfl kb17 w390 w391 w392 ⟨Nat.le_of_ble_eq_true rfl, Nat.le_of_ble_eq_true rfl⟩ rfl hl.1 (rest := [.int (z3 - (1 : Int32)), .int z14, .int x1, .int z11, .int (2 : Int32), .ref (hZ h), .ref (hZ h)]) rfl (Nat.le_of_ble_eq_true rfl) dX5_sendTo_94 (mc := 0) (ms := 0) rfl rfl ⟨by show _ + 0 ≤ 2; omega, by show _ + 0 ≤ 13; omega⟩ (fun H locs hw => ?_)
              refine W.eq (g2 := F0 m 97 ls [.int z17, .int (z3 - (1 : Int32)), .int z14, .int x1, .int z11, .int (2 : Int32), .ref (hZ h), .ref (hZ h)]) rfl ?_
              obtain ⟨z18, h18, e18, hf⟩ := ob2 hf
              refine r_callI C hw (mX4_init e18) kXX4_init rfl w400 w401 ⟨Nat.le_of_ble_eq_true rfl, Nat.le_of_ble_eq_true rfl⟩ rfl hl.1 (rest := [.ref (hZ h)]) rfl (Nat.le_of_ble_eq_true rfl) dX5_sendTo_97 (mc := 0) (ms := 0) rfl rfl ⟨by show _ + 0 ≤ 2; omega, by show _ + 0 ≤ 13; omega⟩ (fun H locs hw => ?_)
              refine W.eq (g2 := F0 m 100 ls [.ref (hZ h)]) rfl ?_
              refine lv_astore (lv' := [(4, .ref (hZ h)), (3, .ref a7), (2, .int (z3 - (1 : Int32))), (0, .ref x0), (1, .int x1)]) hx hb dX5_sendTo_100 hl (by decide) rfl (fun ls hl => ?_)
              refine lv_aload hx hb dX5_sendTo_102 (lv_at hl 0 rfl) ?_
              refine lv_aload_n hx hb dX5_sendTo_104 rfl (lv_at hl 3 rfl) ?_
              obtain ⟨z19, e19, hf⟩ := ob hf
              refine r_gR C hw e19 ck5 rfl (by decide) w189 dX5_sendTo_105 ?_
              cases z19 with
              | none =>
                have hf := on_n hf
                cases hf
              | some a20 =>
                have hf := on_s hf
                refine W.eq (g2 := F0 m 108 ls [.ref a20, .ref (hZ h)]) rfl ?_
                refine lv_iload_n hx hb dX5_sendTo_108 rfl (lv_at hl 2 rfl) ?_
                obtain ⟨kb21, hf⟩ := ig hf
                obtain ⟨z21, h21, e21, hf⟩ := ob2 hf
                refine r_callV C hw (mX1_entriesBehind e21) kXX1_entriesBehind ck1 rfl kb21 w561 w562 w563 ⟨Nat.le_of_ble_eq_true rfl, Nat.le_of_ble_eq_true rfl⟩ rfl hl.1 (rest := [.ref (hZ h)]) rfl (Nat.le_of_ble_eq_true rfl) dX5_sendTo_109 (mc := 1) (ms := 4) rfl rfl ⟨by show _ + 1 ≤ 2; omega, by show _ + 4 ≤ 13; omega⟩ (fun H locs hw => ?_)
                cases z21 with
                | none =>
                  have hf := on_n hf
                  refine W.eq (g2 := F0 m 112 ls [.null, .ref (hZ h)]) rfl ?_
                  obtain ⟨h30, e30, hf⟩ := ob hf
                  refine r_pR C hw e30 rfl ck4 rfl (by decide) rfl rfl w418 (Or.inl rfl) dX5_sendTo_112 (fun H locs hw => ?_)
                  refine lv_aload hx hb dX5_sendTo_115 (lv_at hl 0 rfl) ?_
                  refine lv_aload_n hx hb dX5_sendTo_117 rfl (lv_at hl 3 rfl) ?_
                  obtain ⟨z31, e31, hf⟩ := ob hf
                  refine r_gI C hw e31 ck5 rfl (by decide) w200 dX5_sendTo_118 ?_
                  obtain ⟨h32, e32, hf⟩ := ob hf
                  refine r_pI C hw e32 ck4 rfl (by decide) rfl w420 (Or.inl rfl) dX5_sendTo_121 (fun H locs hw => ?_)
                  refine lv_aload_n hx hb dX5_sendTo_124 rfl (lv_at hl 3 rfl) ?_
                  obtain ⟨z33, e33, hf⟩ := ob hf
                  refine r_gR C hw e33 ck5 rfl (by decide) w202 dX5_sendTo_125 ?_
                  cases z33 with
                  | none =>
                    have hf := on_n hf
                    cases hf
                  | some a34 =>
                    have hf := on_s hf
                    refine W.eq (g2 := F0 m 128 ls [.ref a34]) rfl ?_
                    refine lv_aload hx hb dX5_sendTo_128 (lv_at hl 0 rfl) ?_
                    obtain ⟨kb35, hf⟩ := ig hf
                    obtain ⟨z35, h35, e35, hf⟩ := ob2 hf
                    refine r_callV C hw (mX3_send e35) kXX3_send ck3 rfl kb35 w441 w442 w443 ⟨Nat.le_of_ble_eq_true rfl, Nat.le_of_ble_eq_true rfl⟩ rfl hl.1 (rest := []) rfl (Nat.le_of_ble_eq_true rfl) dX5_sendTo_130 (mc := 0) (ms := 0) rfl rfl ⟨by show _ + 0 ≤ 2; omega, by show _ + 0 ≤ 13; omega⟩ (fun H locs hw => ?_)
                    refine W.eq (g2 := F0 m 133 ls []) rfl ?_
                    obtain ⟨rfl, rfl⟩ := sp hf
                    exact r_vret C hw rfl (by omega) (by omega) dX5_sendTo_133
                | some a22 =>
                  have hf := on_s hf
                  refine W.eq (g2 := F0 m 112 ls [.ref a22, .ref (hZ h)]) rfl ?_
                  obtain ⟨h23, e23, hf⟩ := ob hf
                  refine r_pR C hw e23 rfl ck4 rfl (by decide) rfl rfl w418 (Or.inl rfl) dX5_sendTo_112 (fun H locs hw => ?_)
                  refine lv_aload hx hb dX5_sendTo_115 (lv_at hl 0 rfl) ?_
                  refine lv_aload_n hx hb dX5_sendTo_117 rfl (lv_at hl 3 rfl) ?_
                  obtain ⟨z24, e24, hf⟩ := ob hf
                  refine r_gI C hw e24 ck5 rfl (by decide) w200 dX5_sendTo_118 ?_
                  obtain ⟨h25, e25, hf⟩ := ob hf
                  refine r_pI C hw e25 ck4 rfl (by decide) rfl w420 (Or.inl rfl) dX5_sendTo_121 (fun H locs hw => ?_)
                  refine lv_aload_n hx hb dX5_sendTo_124 rfl (lv_at hl 3 rfl) ?_
                  obtain ⟨z26, e26, hf⟩ := ob hf
                  refine r_gR C hw e26 ck5 rfl (by decide) w202 dX5_sendTo_125 ?_
                  cases z26 with
                  | none =>
                    have hf := on_n hf
                    cases hf
                  | some a27 =>
                    have hf := on_s hf
                    refine W.eq (g2 := F0 m 128 ls [.ref a27]) rfl ?_
                    refine lv_aload hx hb dX5_sendTo_128 (lv_at hl 0 rfl) ?_
                    obtain ⟨kb28, hf⟩ := ig hf
                    obtain ⟨z28, h28, e28, hf⟩ := ob2 hf
                    refine r_callV C hw (mX3_send e28) kXX3_send ck3 rfl kb28 w441 w442 w443 ⟨Nat.le_of_ble_eq_true rfl, Nat.le_of_ble_eq_true rfl⟩ rfl hl.1 (rest := []) rfl (Nat.le_of_ble_eq_true rfl) dX5_sendTo_130 (mc := 0) (ms := 0) rfl rfl ⟨by show _ + 0 ≤ 2; omega, by show _ + 0 ≤ 13; omega⟩ (fun H locs hw => ?_)
                    refine W.eq (g2 := F0 m 133 ls []) rfl ?_
                    obtain ⟨rfl, rfl⟩ := sp hf
                    exact r_vret C hw rfl (by omega) (by omega) dX5_sendTo_133
        · have hf := ie hf c9
          obtain ⟨h39, e39, hf⟩ := ob hf
          refine r_newN C hw e39 ck4 w398 (by show _ + 1 ≤ 2; omega) (by show _ + 9 ≤ 13; omega) dX5_sendTo_25 (fun H hw => ?_)
          refine lv_dup hx hb dX5_sendTo_28 rfl ?_
          refine lv_iconst (v := (5 : Int32)) hx hb dX5_sendTo_29 (by decide) ?_
          refine lv_aload_n hx hb dX5_sendTo_30 rfl (lv_at hl 2 rfl) ?_
          obtain ⟨z40, e40, hf⟩ := ob hf
          refine r_gI C hw e40 ck5 rfl (by decide) w201 dX5_sendTo_31 ?_
          refine lv_iload_n hx hb dX5_sendTo_34 rfl (lv_at hl 3 rfl) ?_
          refine lv_aload_n hx hb dX5_sendTo_35 rfl (lv_at hl 2 rfl) ?_
          obtain ⟨z41, e41, hf⟩ := ob hf
          refine r_gR C hw e41 ck5 rfl (by decide) w189 dX5_sendTo_36 ?_
          cases z41 with
          | none =>
            have hf := on_n hf
            cases hf
          | some a42 =>
            have hf := on_s hf
            refine W.eq (g2 := F0 m 39 ls [.ref a42, .int x1, .int z40, .int (5 : Int32), .ref (hZ h), .ref (hZ h)]) rfl ?_
            obtain ⟨z43, e43, hf⟩ := ob hf
            refine r_gI C hw e43 ck1 rfl (by decide) w162 dX5_sendTo_39 ?_
            refine lv_aload_n hx hb dX5_sendTo_42 rfl (lv_at hl 0 rfl) ?_
            obtain ⟨z44, e44, hf⟩ := ob hf
            refine r_gI C hw e44 ck6 rfl (by decide) w135 dX5_sendTo_43 ?_
            refine lv_aload_n hx hb dX5_sendTo_46 rfl (lv_at hl 0 rfl) ?_
            obtain ⟨z45, e45, hf⟩ := ob hf
            refine r_gI C hw e45 ck6 rfl (by decide) w138 dX5_sendTo_47 ?_
            obtain ⟨z46, h46, e46, hf⟩ := ob2 hf
            refine r_callI C hw (mX4_init e46) kXX4_init rfl w400 w401 ⟨Nat.le_of_ble_eq_true rfl, Nat.le_of_ble_eq_true rfl⟩ rfl hl.1 (rest := [.ref (hZ h)]) rfl (Nat.le_of_ble_eq_true rfl) dX5_sendTo_50 (mc := 0) (ms := 0) rfl rfl ⟨by show _ + 0 ≤ 2; omega, by show _ + 0 ≤ 13; omega⟩ (fun H locs hw => ?_)
            refine W.eq (g2 := F0 m 53 ls [.ref (hZ h)]) rfl ?_
            refine lv_astore (lv' := [(4, .ref (hZ h)), (3, .ref a7), (2, .int (z3 - (1 : Int32))), (0, .ref x0), (1, .int x1)]) hx hb dX5_sendTo_53 hl (by decide) rfl (fun ls hl => ?_)
            refine lv_aload hx hb dX5_sendTo_55 (lv_at hl 0 rfl) ?_
            refine lv_aload_n hx hb dX5_sendTo_57 rfl (lv_at hl 1 rfl) ?_
            obtain ⟨h47, e47, hf⟩ := ob hf
            refine r_pR C hw e47 rfl ck4 rfl (by decide) rfl rfl w421 (Or.inl rfl) dX5_sendTo_58 (fun H locs hw => ?_)
            refine lv_aload_n hx hb dX5_sendTo_61 rfl (lv_at hl 3 rfl) ?_
            obtain ⟨z48, e48, hf⟩ := ob hf
            refine r_gR C hw e48 ck5 rfl (by decide) w202 dX5_sendTo_62 ?_
            cases z48 with
            | none =>
              have hf := on_n hf
              cases hf
            | some a49 =>
              have hf := on_s hf
              refine W.eq (g2 := F0 m 65 ls [.ref a49]) rfl ?_
              refine lv_aload hx hb dX5_sendTo_65 (lv_at hl 0 rfl) ?_
              obtain ⟨kb50, hf⟩ := ig hf
              obtain ⟨z50, h50, e50, hf⟩ := ob2 hf
              refine r_callV C hw (mX3_send e50) kXX3_send ck3 rfl kb50 w441 w442 w443 ⟨Nat.le_of_ble_eq_true rfl, Nat.le_of_ble_eq_true rfl⟩ rfl hl.1 (rest := []) rfl (Nat.le_of_ble_eq_true rfl) dX5_sendTo_67 (mc := 0) (ms := 0) rfl rfl ⟨by show _ + 0 ≤ 2; omega, by show _ + 0 ≤ 13; omega⟩ (fun H locs hw => ?_)
              refine W.eq (g2 := F0 m 70 ls []) rfl ?_
              obtain ⟨rfl, rfl⟩ := sp hf
              exact r_vret C hw rfl (by omega) (by omega) dX5_sendTo_70
theorem kXX5_sendTo : MK yX5_sendTo cX5_sendTo 5 none 1 := ⟨w560, w6, by decide +kernel⟩
theorem mX5_sendTo {D : va_G} {cy : Nat → ClassId} {s0 : Nat} {l : Launch} {x0 : Nat} {x1 : Int32} {h : Hp} {v : Unit} {h1 : Hp} (hf : fX5_sendTo x0 x1 h = some (v, h1)) : MT D cy s0 l yX5_sendTo cX5_sendTo 5 none rX5_sendTo [.ref x0, .int x1] h none h1 := by
  refine MT.of (by decide +kernel) (Nat.le_of_ble_eq_true rfl) ?_
  intro p e s m below meth c H locs ls C hn hw hl
  exact bX5_sendTo C hn _ _ _ _ hf _ _ _ _ _ (Nat.le_of_ble_eq_true rfl) (Nat.le_of_ble_eq_true rfl) hw hl
abbrev rX5_handleAccept : Room := { frames := 3, cells := 2, slots := 13, locals := 80 }
abbrev pX5_handleAccept_38 (D : va_G) (cy : Nat → ClassId) (s0 : Nat) (p : Program) (l : Launch) (e : Env) (s : State) (m : MethodId) (args : Array Value) (below : List Frame) (meth : Method) (c : Code) (r : Unit × Hp) (x0 : Nat) (x1 : Nat) (h : Hp) : Prop := ∀ (H : Heap) (locs : List Loc) (ls : Array Slot) (cells slots : Nat), cells + (2) ≤ 2 → slots + (13) ≤ 13 → WS D cy s0 s h H locs → lv_has ls 2 [(0, .ref x0), (1, .ref x1)] → W p l e rX5_handleAccept s m args below meth c H locs cells slots (MQ below (QQ D cy s0 none r.2) args s 2 13 (fun q => s0 ≤ q)) (F0 m 38 ls [])
abbrev pX5_handleAccept (D : va_G) (cy : Nat → ClassId) (s0 : Nat) (p : Program) (l : Launch) (e : Env) (s : State) (m : MethodId) (args : Array Value) (below : List Frame) (meth : Method) (c : Code) (r : Unit × Hp) (x0 : Nat) (x1 : Nat) (h : Hp) : Prop := ∀ (H : Heap) (locs : List Loc) (ls : Array Slot) (cells slots : Nat), cells + (2) ≤ 2 → slots + (13) ≤ 13 → WS D cy s0 s h H locs → lv_has ls 2 [(0, .ref x0), (1, .ref x1)] → W p l e rX5_handleAccept s m args below meth c H locs cells slots (MQ below (QQ D cy s0 none r.2) args s 2 13 (fun q => s0 ≤ q)) (F0 m 0 ls [])
set_option maxRecDepth 100000 in
set_option maxHeartbeats 4000000 in
theorem bX5_handleAccept_38 {D : va_G} {cy : Nat → ClassId} {s0 : Nat} {p : Program} {l : Launch} {e : Env} {s : State} {m : MethodId} {args : Array Value} {below : List Frame} {meth : Method} {c : Code} (C : CX D cy s0 p s m args meth c cX5_handleAccept 2 RX5 none) (hn : meth.name = "handleAccept") : ∀ (x0 : Nat) (x1 : Nat) (h : Hp) (r : Unit × Hp), fX5_handleAccept_38 x0 x1 h = some r → pX5_handleAccept_38 D cy s0 p l e s m args below meth c r x0 x1 h := by
  intro x0 x1 h ⟨rv, rh⟩ hf H locs ls cells slots hc hs hw hl
  unfold fX5_handleAccept_38 at hf
  have hx := C.1
  have hb := C.2.1
  refine lv_aload_n hx hb dX5_handleAccept_38 rfl (lv_at hl 0 rfl) ?_
  obtain ⟨z1, e1, hf⟩ := ob hf
  refine r_gR C hw e1 ck5 rfl (by decide) w207 dX5_handleAccept_39 ?_
  cases z1 with
  | none =>
    have hf := on_n hf
    cases hf
  | some a2 =>
    have hf := on_s hf
    refine W.eq (g2 := F0 m 42 ls [.ref a2]) rfl ?_
    refine lv_aload_n hx hb dX5_handleAccept_42 rfl (lv_at hl 1 rfl) ?_
    obtain ⟨z3, e3, hf⟩ := ob hf
    refine r_gI C hw e3 ck4 rfl (by decide) w408 dX5_handleAccept_43 ?_
    refine lv_aload_n hx hb dX5_handleAccept_46 rfl (lv_at hl 0 rfl) ?_
    obtain ⟨z4, e4, hf⟩ := ob hf
    refine r_gR C hw e4 ck5 rfl (by decide) w208 dX5_handleAccept_47 ?_
    cases z4 with
    | none =>
      have hf := on_n hf
      cases hf
    | some a5 =>
      have hf := on_s hf
      refine W.eq (g2 := F0 m 50 ls [.ref a5, .int z3, .ref a2]) rfl ?_
      refine lv_aload_n hx hb dX5_handleAccept_50 rfl (lv_at hl 1 rfl) ?_
      obtain ⟨z6, e6, hf⟩ := ob hf
      refine r_gI C hw e6 ck4 rfl (by decide) w408 dX5_handleAccept_51 ?_
      obtain ⟨z7, e7, hf⟩ := ob hf
      refine r_iald C hw e7 dX5_handleAccept_54 ?_
      refine lv_iconst (v := (1 : Int32)) hx hb dX5_handleAccept_55 (by decide) ?_
      refine lv_iadd hx hb dX5_handleAccept_56 ?_
      obtain ⟨h8, e8, hf⟩ := ob hf
      refine r_iast C hw e8 dX5_handleAccept_57 (fun H locs hw => ?_)
      refine lv_aload_n hx hb dX5_handleAccept_58 rfl (lv_at hl 0 rfl) ?_
      obtain ⟨kb9, hf⟩ := ig hf
      obtain ⟨z9, h9, e9, hf⟩ := ob2 hf
      refine r_callV C hw (mX5_commitWhatMatches e9) kXX5_commitWhatMatches ck5 rfl kb9 w589 w591 v14 ⟨Nat.le_of_ble_eq_true rfl, Nat.le_of_ble_eq_true rfl⟩ rfl hl.1 (rest := []) rfl (Nat.le_of_ble_eq_true rfl) dX5_handleAccept_59 (mc := 0) (ms := 0) rfl rfl ⟨by show _ + 0 ≤ 2; omega, by show _ + 0 ≤ 13; omega⟩ (fun H locs hw => ?_)
      refine W.eq (g2 := F0 m 62 ls []) rfl ?_
      refine lv_aload_n hx hb dX5_handleAccept_62 rfl (lv_at hl 0 rfl) ?_
      obtain ⟨z10, e10, hf⟩ := ob hf
      refine r_gR C hw e10 ck5 rfl (by decide) w207 dX5_handleAccept_63 ?_
      cases z10 with
      | none =>
        have hf := on_n hf
        cases hf
      | some a11 =>
        have hf := on_s hf
        refine W.eq (g2 := F0 m 66 ls [.ref a11]) rfl ?_
        refine lv_aload_n hx hb dX5_handleAccept_66 rfl (lv_at hl 1 rfl) ?_
        obtain ⟨z12, e12, hf⟩ := ob hf
        refine r_gI C hw e12 ck4 rfl (by decide) w408 dX5_handleAccept_67 ?_
        obtain ⟨z13, e13, hf⟩ := ob hf
        refine r_iald C hw e13 dX5_handleAccept_70 ?_
        refine lv_aload_n hx hb dX5_handleAccept_71 rfl (lv_at hl 0 rfl) ?_
        obtain ⟨z14, e14, hf⟩ := ob hf
        refine r_gR C hw e14 ck5 rfl (by decide) w189 dX5_handleAccept_72 ?_
        cases z14 with
        | none =>
          have hf := on_n hf
          cases hf
        | some a15 =>
          have hf := on_s hf
          refine W.eq (g2 := F0 m 75 ls [.ref a15, .int z13]) rfl ?_
          obtain ⟨z16, e16, hf⟩ := ob hf
          refine r_gI C hw e16 ck1 rfl (by decide) w166 dX5_handleAccept_75 ?_
          refine lv_icmp_gt (tgt := 89) hx hb dX5_handleAccept_78 (by decide) (fun c17 => ?_) (fun c17 => ?_)
          · have hf := ip hf c17
            obtain ⟨rfl, rfl⟩ := sp hf
            exact r_vret C hw rfl (by omega) (by omega) dX5_handleAccept_89
          · have hf := ie hf c17
            refine lv_aload_n hx hb dX5_handleAccept_81 rfl (lv_at hl 0 rfl) ?_
            refine lv_aload_n hx hb dX5_handleAccept_82 rfl (lv_at hl 1 rfl) ?_
            obtain ⟨z18, e18, hf⟩ := ob hf
            refine r_gI C hw e18 ck4 rfl (by decide) w408 dX5_handleAccept_83 ?_
            obtain ⟨kb19, hf⟩ := ig hf
            obtain ⟨z19, h19, e19, hf⟩ := ob2 hf
            refine r_callV C hw (mX5_sendTo e19) kXX5_sendTo ck5 rfl kb19 w557 w559 v10 ⟨Nat.le_of_ble_eq_true rfl, Nat.le_of_ble_eq_true rfl⟩ rfl hl.1 (rest := []) rfl (Nat.le_of_ble_eq_true rfl) dX5_handleAccept_86 (mc := 2) (ms := 13) rfl rfl ⟨by show _ + 2 ≤ 2; omega, by show _ + 13 ≤ 13; omega⟩ (fun H locs hw => ?_)
            refine W.eq (g2 := F0 m 89 ls []) rfl ?_
            obtain ⟨rfl, rfl⟩ := sp hf
            exact r_vret C hw rfl (by omega) (by omega) dX5_handleAccept_89
set_option maxRecDepth 100000 in
set_option maxHeartbeats 4000000 in
theorem bX5_handleAccept {D : va_G} {cy : Nat → ClassId} {s0 : Nat} {p : Program} {l : Launch} {e : Env} {s : State} {m : MethodId} {args : Array Value} {below : List Frame} {meth : Method} {c : Code} (C : CX D cy s0 p s m args meth c cX5_handleAccept 2 RX5 none) (hn : meth.name = "handleAccept") : ∀ (x0 : Nat) (x1 : Nat) (h : Hp) (r : Unit × Hp), fX5_handleAccept x0 x1 h = some r → pX5_handleAccept D cy s0 p l e s m args below meth c r x0 x1 h := by
  intro x0 x1 h ⟨rv, rh⟩ hf H locs ls cells slots hc hs hw hl
  unfold fX5_handleAccept at hf
  have hx := C.1
  have hb := C.2.1
  refine lv_aload_n hx hb dX5_handleAccept_0 rfl (lv_at hl 0 rfl) ?_
  obtain ⟨z1, e1, hf⟩ := ob hf
  refine r_gI C hw e1 ck5 rfl (by decide) w197 dX5_handleAccept_1 ?_
  refine lv_iconst (v := (2 : Int32)) hx hb dX5_handleAccept_4 (by decide) ?_
  refine lv_icmp_eq (tgt := 9) hx hb dX5_handleAccept_5 (by decide) (fun c2 => ?_) (fun c2 => ?_)
  · have hf := ip hf c2
    refine lv_aload_n hx hb dX5_handleAccept_9 rfl (lv_at hl 0 rfl) ?_
    obtain ⟨z3, e3, hf⟩ := ob hf
    refine r_gR C hw e3 ck5 rfl (by decide) w208 dX5_handleAccept_10 ?_
    cases z3 with
    | none =>
      have hf := on_n hf
      cases hf
    | some a4 =>
      have hf := on_s hf
      refine W.eq (g2 := F0 m 13 ls [.ref a4]) rfl ?_
      refine lv_aload_n hx hb dX5_handleAccept_13 rfl (lv_at hl 1 rfl) ?_
      obtain ⟨z5, e5, hf⟩ := ob hf
      refine r_gI C hw e5 ck4 rfl (by decide) w408 dX5_handleAccept_14 ?_
      obtain ⟨z6, e6, hf⟩ := ob hf
      refine r_iald C hw e6 dX5_handleAccept_17 ?_
      refine lv_aload_n hx hb dX5_handleAccept_18 rfl (lv_at hl 1 rfl) ?_
      obtain ⟨z7, e7, hf⟩ := ob hf
      refine r_gI C hw e7 ck4 rfl (by decide) w414 dX5_handleAccept_19 ?_
      refine lv_icmp_ge (tgt := 38) hx hb dX5_handleAccept_22 (by decide) (fun c8 => ?_) (fun c8 => ?_)
      · have hf := ip hf c8
        exact bX5_handleAccept_38 C hn _ _ _ _ hf _ _ _ _ _ (by omega) (by omega) hw (lv_sub hl [0, 1] rfl)
      · have hf := ie hf c8
        refine lv_aload_n hx hb dX5_handleAccept_25 rfl (lv_at hl 0 rfl) ?_
        obtain ⟨z9, e9, hf⟩ := ob hf
        refine r_gR C hw e9 ck5 rfl (by decide) w208 dX5_handleAccept_26 ?_
        cases z9 with
        | none =>
          have hf := on_n hf
          cases hf
        | some a10 =>
          have hf := on_s hf
          refine W.eq (g2 := F0 m 29 ls [.ref a10]) rfl ?_
          refine lv_aload_n hx hb dX5_handleAccept_29 rfl (lv_at hl 1 rfl) ?_
          obtain ⟨z11, e11, hf⟩ := ob hf
          refine r_gI C hw e11 ck4 rfl (by decide) w408 dX5_handleAccept_30 ?_
          refine lv_aload_n hx hb dX5_handleAccept_33 rfl (lv_at hl 1 rfl) ?_
          obtain ⟨z12, e12, hf⟩ := ob hf
          refine r_gI C hw e12 ck4 rfl (by decide) w414 dX5_handleAccept_34 ?_
          obtain ⟨h13, e13, hf⟩ := ob hf
          refine r_iast C hw e13 dX5_handleAccept_37 (fun H locs hw => ?_)
          exact bX5_handleAccept_38 C hn _ _ _ _ hf _ _ _ _ _ (by omega) (by omega) hw (lv_sub hl [0, 1] rfl)
  · have hf := ie hf c2
    obtain ⟨rfl, rfl⟩ := sp hf
    exact r_vret C hw rfl (by omega) (by omega) dX5_handleAccept_8
theorem kXX5_handleAccept : MK yX5_handleAccept cX5_handleAccept 2 none 1 := ⟨w588, w6, by decide +kernel⟩
theorem mX5_handleAccept {D : va_G} {cy : Nat → ClassId} {s0 : Nat} {l : Launch} {x0 : Nat} {x1 : Nat} {h : Hp} {v : Unit} {h1 : Hp} (hf : fX5_handleAccept x0 x1 h = some (v, h1)) : MT D cy s0 l yX5_handleAccept cX5_handleAccept 2 none rX5_handleAccept [.ref x0, .ref x1] h none h1 := by
  refine MT.of (by decide +kernel) (Nat.le_of_ble_eq_true rfl) ?_
  intro p e s m below meth c H locs ls C hn hw hl
  exact bX5_handleAccept C hn _ _ _ _ hf _ _ _ _ _ (Nat.le_of_ble_eq_true rfl) (Nat.le_of_ble_eq_true rfl) hw hl
abbrev rX5_survives : Room := { frames := 1, cells := 0, slots := 0, locals := 20 }
abbrev pX5_survives (D : va_G) (cy : Nat → ClassId) (s0 : Nat) (p : Program) (l : Launch) (e : Env) (s : State) (m : MethodId) (args : Array Value) (below : List Frame) (meth : Method) (c : Code) (r : Int32 × Hp) (x0 : Nat) (x1 : Int32) (h : Hp) : Prop := ∀ (H : Heap) (locs : List Loc) (ls : Array Slot) (cells slots : Nat), cells + (0) ≤ 0 → slots + (0) ≤ 0 → WS D cy s0 s h H locs → lv_has ls 2 [(0, .ref x0), (1, .int x1)] → W p l e rX5_survives s m args below meth c H locs cells slots (MQ below (QQ D cy s0 (some (.int r.1)) r.2) args s 0 0 (fun q => s0 ≤ q)) (F0 m 0 ls [])
set_option maxRecDepth 100000 in
set_option maxHeartbeats 4000000 in
theorem bX5_survives {D : va_G} {cy : Nat → ClassId} {s0 : Nat} {p : Program} {l : Launch} {e : Env} {s : State} {m : MethodId} {args : Array Value} {below : List Frame} {meth : Method} {c : Code} (C : CX D cy s0 p s m args meth c cX5_survives 2 RX5 (some .boolean)) (hn : meth.name = "survives") : ∀ (x0 : Nat) (x1 : Int32) (h : Hp) (r : Int32 × Hp), fX5_survives x0 x1 h = some r → pX5_survives D cy s0 p l e s m args below meth c r x0 x1 h := by
  intro x0 x1 h ⟨rv, rh⟩ hf H locs ls cells slots hc hs hw hl
  unfold fX5_survives at hf
  have hx := C.1
  have hb := C.2.1
  refine lv_iload_n hx hb dX5_survives_0 rfl (lv_at hl 1 rfl) ?_
  refine lv_if_ne (tgt := 8) hx hb dX5_survives_1 (by decide) (fun c1 => ?_) (fun c1 => ?_)
  · have hf := ie hf c1
    refine lv_iload_n hx hb dX5_survives_8 rfl (lv_at hl 1 rfl) ?_
    obtain ⟨gz, hf⟩ := ig hf
    obtain ⟨rfl, rfl⟩ := sp hf
    exact r_iret C hw rfl (nz gz) (by omega) (by omega) dX5_survives_9
  · have hf := ip hf c1
    refine lv_aload_n hx hb dX5_survives_4 rfl (lv_at hl 0 rfl) ?_
    obtain ⟨kb2, hf⟩ := ig hf
    obtain ⟨z2, h2, e2, hf⟩ := ob2 hf
    refine r_callV C hw (mX5_goDown e2) kXX5_goDown ck5 rfl kb2 w386 w387 w388 ⟨Nat.le_of_ble_eq_true rfl, Nat.le_of_ble_eq_true rfl⟩ rfl hl.1 (rest := []) rfl (Nat.le_of_ble_eq_true rfl) dX5_survives_5 (mc := 0) (ms := 0) rfl rfl ⟨by show _ + 0 ≤ 0; omega, by show _ + 0 ≤ 0; omega⟩ (fun H locs hw => ?_)
    refine W.eq (g2 := F0 m 8 ls []) rfl ?_
    refine lv_iload_n hx hb dX5_survives_8 rfl (lv_at hl 1 rfl) ?_
    obtain ⟨gz, hf⟩ := ig hf
    obtain ⟨rfl, rfl⟩ := sp hf
    exact r_iret C hw rfl (nz gz) (by omega) (by omega) dX5_survives_9
theorem kXX5_survives : MK yX5_survives cX5_survives 2 (some .boolean) 1 := ⟨w385, w6, by decide +kernel⟩
theorem mX5_survives {D : va_G} {cy : Nat → ClassId} {s0 : Nat} {l : Launch} {x0 : Nat} {x1 : Int32} {h : Hp} {v : Int32} {h1 : Hp} (hf : fX5_survives x0 x1 h = some (v, h1)) : MT D cy s0 l yX5_survives cX5_survives 2 (some .boolean) rX5_survives [.ref x0, .int x1] h (some (.int v)) h1 := by
  refine MT.of (by decide +kernel) (Nat.le_of_ble_eq_true rfl) ?_
  intro p e s m below meth c H locs ls C hn hw hl
  exact bX5_survives C hn _ _ _ _ hf _ _ _ _ _ (Nat.le_of_ble_eq_true rfl) (Nat.le_of_ble_eq_true rfl) hw hl
abbrev rX5_keepEntries : Room := { frames := 2, cells := 0, slots := 0, locals := 43 }
abbrev pX5_keepEntries_79 (D : va_G) (cy : Nat → ClassId) (s0 : Nat) (p : Program) (l : Launch) (e : Env) (s : State) (m : MethodId) (args : Array Value) (below : List Frame) (meth : Method) (c : Code) (r : Int32 × Hp) (x0 : Nat) (x1 : Nat) (x2 : Int32) (x3 : Int32) (h : Hp) : Prop := ∀ (H : Heap) (locs : List Loc) (ls : Array Slot) (cells slots : Nat), cells + (0) ≤ 0 → slots + (0) ≤ 0 → WS D cy s0 s h H locs → lv_has ls 6 [(0, .ref x0), (1, .ref x1), (2, .int x2), (3, .int x3)] → W p l e rX5_keepEntries s m args below meth c H locs cells slots (MQ below (QQ D cy s0 (some (.int r.1)) r.2) args s 0 0 (fun q => s0 ≤ q)) (F0 m 79 ls [])
abbrev pX5_keepEntries_2 (D : va_G) (cy : Nat → ClassId) (s0 : Nat) (p : Program) (l : Launch) (e : Env) (s : State) (m : MethodId) (args : Array Value) (below : List Frame) (meth : Method) (c : Code) (r : Int32 × Hp) (x0 : Nat) (x1 : Nat) (x2 : Int32) (x3 : Int32) (h : Hp) : Prop := ∀ (H : Heap) (locs : List Loc) (ls : Array Slot) (cells slots : Nat), cells + (0) ≤ 0 → slots + (0) ≤ 0 → WS D cy s0 s h H locs → lv_has ls 6 [(0, .ref x0), (1, .ref x1), (2, .int x2), (3, .int x3)] → W p l e rX5_keepEntries s m args below meth c H locs cells slots (MQ below (QQ D cy s0 (some (.int r.1)) r.2) args s 0 0 (fun q => s0 ≤ q)) (F0 m 2 ls [])
abbrev pX5_keepEntries (D : va_G) (cy : Nat → ClassId) (s0 : Nat) (p : Program) (l : Launch) (e : Env) (s : State) (m : MethodId) (args : Array Value) (below : List Frame) (meth : Method) (c : Code) (r : Int32 × Hp) (x0 : Nat) (x1 : Nat) (x2 : Int32) (h : Hp) : Prop := ∀ (H : Heap) (locs : List Loc) (ls : Array Slot) (cells slots : Nat), cells + (0) ≤ 0 → slots + (0) ≤ 0 → WS D cy s0 s h H locs → lv_has ls 6 [(0, .ref x0), (1, .ref x1), (2, .int x2)] → W p l e rX5_keepEntries s m args below meth c H locs cells slots (MQ below (QQ D cy s0 (some (.int r.1)) r.2) args s 0 0 (fun q => s0 ≤ q)) (F0 m 0 ls [])
set_option maxRecDepth 100000 in
set_option maxHeartbeats 4000000 in
theorem bX5_keepEntries_79 {D : va_G} {cy : Nat → ClassId} {s0 : Nat} {p : Program} {l : Launch} {e : Env} {s : State} {m : MethodId} {args : Array Value} {below : List Frame} {meth : Method} {c : Code} (C : CX D cy s0 p s m args meth c cX5_keepEntries 6 RX5 (some .boolean)) (hn : meth.name = "keepEntries") {k2 : Nat → Nat → Int32 → Int32 → Hp → Option (Int32 × Hp)} (hk2 : ∀ (x0 : Nat) (x1 : Nat) (x2 : Int32) (x3 : Int32) (h : Hp) (r : Int32 × Hp), k2 x0 x1 x2 x3 h = some r → pX5_keepEntries_2 D cy s0 p l e s m args below meth c r x0 x1 x2 x3 h) : ∀ (x0 : Nat) (x1 : Nat) (x2 : Int32) (x3 : Int32) (h : Hp) (r : Int32 × Hp), fX5_keepEntries_79 k2 x0 x1 x2 x3 h = some r → pX5_keepEntries_79 D cy s0 p l e s m args below meth c r x0 x1 x2 x3 h := by
  intro x0 x1 x2 x3 h ⟨rv, rh⟩ hf H locs ls cells slots hc hs hw hl
  unfold fX5_keepEntries_79 at hf
  have hx := C.1
  have hb := C.2.1
  refine lv_iinc (v := (x3 + (1 : Int32))) (lv' := [(3, .int (x3 + (1 : Int32))), (0, .ref x0), (1, .ref x1), (2, .int x2)]) hx hb dX5_keepEntries_79 hl (k := 3) rfl rfl (by decide) rfl (fun ls hl => ?_)
  refine lv_goto (tgt := 2) hx hb dX5_keepEntries_82 (by decide) ?_
  exact hk2 _ _ _ _ _ _ hf _ _ _ _ _ (by omega) (by omega) hw (lv_sub hl [1, 2, 3, 0] rfl)
set_option maxRecDepth 100000 in
set_option maxHeartbeats 4000000 in
theorem bX5_keepEntries_2_body {D : va_G} {cy : Nat → ClassId} {s0 : Nat} {p : Program} {l : Launch} {e : Env} {s : State} {m : MethodId} {args : Array Value} {below : List Frame} {meth : Method} {c : Code} (C : CX D cy s0 p s m args meth c cX5_keepEntries 6 RX5 (some .boolean)) (hn : meth.name = "keepEntries") {k2 : Nat → Nat → Int32 → Int32 → Hp → Option (Int32 × Hp)} (hk2 : ∀ (x0 : Nat) (x1 : Nat) (x2 : Int32) (x3 : Int32) (h : Hp) (r : Int32 × Hp), k2 x0 x1 x2 x3 h = some r → pX5_keepEntries_2 D cy s0 p l e s m args below meth c r x0 x1 x2 x3 h) : ∀ (x0 : Nat) (x1 : Nat) (x2 : Int32) (x3 : Int32) (h : Hp) (r : Int32 × Hp), fX5_keepEntries_2_body k2 x0 x1 x2 x3 h = some r → pX5_keepEntries_2 D cy s0 p l e s m args below meth c r x0 x1 x2 x3 h := by
  intro x0 x1 x2 x3 h ⟨rv, rh⟩ hf H locs ls cells slots hc hs hw hl
  unfold fX5_keepEntries_2_body at hf
  have hx := C.1
  have hb := C.2.1
  refine lv_iload_n hx hb dX5_keepEntries_2 rfl (lv_at hl 3 rfl) ?_
  refine lv_aload_n hx hb dX5_keepEntries_3 rfl (lv_at hl 1 rfl) ?_
  obtain ⟨kb1, hf⟩ := ig hf
  obtain ⟨z1, h1, e1, hf⟩ := ob2 hf
  refine r_callV C hw (mX4_entryCount e1) kXX4_entryCount ck4 rfl kb1 w579 w580 w581 ⟨Nat.le_of_ble_eq_true rfl, Nat.le_of_ble_eq_true rfl⟩ rfl hl.1 (rest := [.int x3]) rfl (Nat.le_of_ble_eq_true rfl) dX5_keepEntries_4 (mc := 0) (ms := 0) rfl rfl ⟨by show _ + 0 ≤ 0; omega, by show _ + 0 ≤ 0; omega⟩ (fun H locs hw => ?_)
  refine W.eq (g2 := F0 m 7 ls [.int z1, .int x3]) rfl ?_
  refine lv_icmp_ge (tgt := 85) hx hb dX5_keepEntries_7 (by decide) (fun c2 => ?_) (fun c2 => ?_)
  · have hf := ip hf c2
    refine lv_iconst (v := (1 : Int32)) hx hb dX5_keepEntries_85 (by decide) ?_
    obtain ⟨rfl, rfl⟩ := sp hf
    exact r_iret C hw rfl (nz (Or.inr rfl)) (by omega) (by omega) dX5_keepEntries_86
  · have hf := ie hf c2
    refine lv_aload_n hx hb dX5_keepEntries_10 rfl (lv_at hl 1 rfl) ?_
    obtain ⟨z3, e3, hf⟩ := ob hf
    refine r_gI C hw e3 ck4 rfl (by decide) w414 dX5_keepEntries_11 ?_
    refine lv_iconst (v := (1 : Int32)) hx hb dX5_keepEntries_14 (by decide) ?_
    refine lv_iadd hx hb dX5_keepEntries_15 ?_
    refine lv_iload_n hx hb dX5_keepEntries_16 rfl (lv_at hl 3 rfl) ?_
    refine lv_iadd hx hb dX5_keepEntries_17 ?_
    refine lv_istore (lv' := [(4, .int ((z3 + (1 : Int32)) + x3)), (0, .ref x0), (1, .ref x1), (2, .int x2), (3, .int x3)]) hx hb dX5_keepEntries_18 hl (by decide) rfl (fun ls hl => ?_)
    refine lv_aload_n hx hb dX5_keepEntries_20 rfl (lv_at hl 2 rfl) ?_
    obtain ⟨z4, e4, hf⟩ := ob hf
    refine r_gR C hw e4 ck4 rfl (by decide) w418 dX5_keepEntries_21 ?_
    cases z4 with
    | none =>
      have hf := on_n hf
      cases hf
    | some a5 =>
      have hf := on_s hf
      refine W.eq (g2 := F0 m 24 ls [.ref a5]) rfl ?_
      refine lv_iload_n hx hb dX5_keepEntries_24 rfl (lv_at hl 4 rfl) ?_
      obtain ⟨z6, e6, hf⟩ := ob hf
      refine r_aald C hw e6 (by decide) rfl dX5_keepEntries_25 ?_
      cases z6 with
      | none =>
        have hf := on_n hf
        refine W.eq (g2 := F0 m 26 ls [.null]) rfl ?_
        refine lv_astoreN (lv' := [(5, .null), (4, .int ((z3 + (1 : Int32)) + x3)), (0, .ref x0), (1, .ref x1), (2, .int x2), (3, .int x3)]) hx hb dX5_keepEntries_26 hl (by decide) rfl (fun ls hl => ?_)
        refine lv_iload hx hb dX5_keepEntries_28 (lv_at hl 1 rfl) ?_
        refine lv_iload_n hx hb dX5_keepEntries_30 rfl (lv_at hl 4 rfl) ?_
        refine lv_icmp_le (tgt := 79) hx hb dX5_keepEntries_31 (by decide) (fun c21 => ?_) (fun c21 => ?_)
        · have hf := ip hf c21
          exact bX5_keepEntries_79 C hn hk2 _ _ _ _ _ _ hf _ _ _ _ _ (by omega) (by omega) hw (lv_sub hl [2, 3, 4, 5] rfl)
        · have hf := ie hf c21
          refine lv_aloadN hx hb dX5_keepEntries_34 (lv_at hl 0 rfl) ?_
          refine lv_ifnullN (tgt := 79) hx hb dX5_keepEntries_36 (by decide) ?_
          exact bX5_keepEntries_79 C hn hk2 _ _ _ _ _ _ hf _ _ _ _ _ (by omega) (by omega) hw (lv_sub hl [2, 3, 4, 5] rfl)
      | some a7 =>
        have hf := on_s hf
        refine W.eq (g2 := F0 m 26 ls [.ref a7]) rfl ?_
        refine lv_astore (lv' := [(5, .ref a7), (4, .int ((z3 + (1 : Int32)) + x3)), (0, .ref x0), (1, .ref x1), (2, .int x2), (3, .int x3)]) hx hb dX5_keepEntries_26 hl (by decide) rfl (fun ls hl => ?_)
        refine lv_iload hx hb dX5_keepEntries_28 (lv_at hl 1 rfl) ?_
        refine lv_iload_n hx hb dX5_keepEntries_30 rfl (lv_at hl 4 rfl) ?_
        refine lv_icmp_le (tgt := 79) hx hb dX5_keepEntries_31 (by decide) (fun c8 => ?_) (fun c8 => ?_)
        · have hf := ip hf c8
          exact bX5_keepEntries_79 C hn hk2 _ _ _ _ _ _ hf _ _ _ _ _ (by omega) (by omega) hw (lv_sub hl [2, 3, 4, 5] rfl)
        · have hf := ie hf c8
          refine lv_aload hx hb dX5_keepEntries_34 (lv_at hl 0 rfl) ?_
          refine lv_ifnull hx hb dX5_keepEntries_36 ?_
          refine lv_aload_n hx hb dX5_keepEntries_39 rfl (lv_at hl 2 rfl) ?_
          obtain ⟨z9, e9, hf⟩ := ob hf
          refine r_gR C hw e9 ck5 rfl (by decide) w189 dX5_keepEntries_40 ?_
          cases z9 with
          | none =>
            have hf := on_n hf
            cases hf
          | some a10 =>
            have hf := on_s hf
            refine W.eq (g2 := F0 m 43 ls [.ref a10]) rfl ?_
            refine lv_iload hx hb dX5_keepEntries_43 (lv_at hl 1 rfl) ?_
            obtain ⟨kb11, hf⟩ := ig hf
            obtain ⟨z11, h11, e11, hf⟩ := ob2 hf
            refine r_callV C hw (mX1_termAt e11) kXX1_termAt ck1 rfl kb11 w390 w391 w392 ⟨Nat.le_of_ble_eq_true rfl, Nat.le_of_ble_eq_true rfl⟩ rfl hl.1 (rest := []) rfl (Nat.le_of_ble_eq_true rfl) dX5_keepEntries_45 (mc := 0) (ms := 0) rfl rfl ⟨by show _ + 0 ≤ 0; omega, by show _ + 0 ≤ 0; omega⟩ (fun H locs hw => ?_)
            refine W.eq (g2 := F0 m 48 ls [.int z11]) rfl ?_
            refine lv_aload hx hb dX5_keepEntries_48 (lv_at hl 0 rfl) ?_
            obtain ⟨z12, e12, hf⟩ := ob hf
            refine r_gI C hw e12 ck2 rfl (by decide) w541 dX5_keepEntries_50 ?_
            refine lv_icmp_ne (tgt := 59) hx hb dX5_keepEntries_53 (by decide) (fun c13 => ?_) (fun c13 => ?_)
            · have hf := ie hf c13
              refine lv_aload_n hx hb dX5_keepEntries_59 rfl (lv_at hl 2 rfl) ?_
              refine lv_aload_n hx hb dX5_keepEntries_60 rfl (lv_at hl 2 rfl) ?_
              obtain ⟨z14, e14, hf⟩ := ob hf
              refine r_gR C hw e14 ck5 rfl (by decide) w189 dX5_keepEntries_61 ?_
              cases z14 with
              | none =>
                have hf := on_n hf
                cases hf
              | some a15 =>
                have hf := on_s hf
                refine W.eq (g2 := F0 m 64 ls [.ref a15, .ref x0]) rfl ?_
                refine lv_iload hx hb dX5_keepEntries_64 (lv_at hl 1 rfl) ?_
                refine lv_aload hx hb dX5_keepEntries_66 (lv_at hl 0 rfl) ?_
                obtain ⟨kb16, hf⟩ := ig hf
                obtain ⟨z16, h16, e16, hf⟩ := ob2 hf
                refine r_callV C hw (mX1_recordEntry e16) kXX1_recordEntry ck1 rfl kb16 w549 w550 w551 ⟨Nat.le_of_ble_eq_true rfl, Nat.le_of_ble_eq_true rfl⟩ rfl hl.1 (rest := [.ref x0]) rfl (Nat.le_of_ble_eq_true rfl) dX5_keepEntries_68 (mc := 0) (ms := 0) rfl rfl ⟨by show _ + 0 ≤ 0; omega, by show _ + 0 ≤ 0; omega⟩ (fun H locs hw => ?_)
                refine W.eq (g2 := F0 m 71 ls [.int z16, .ref x0]) rfl ?_
                obtain ⟨kb17, hf⟩ := ig hf
                obtain ⟨z17, h17, e17, hf⟩ := ob2 hf
                refine r_callV C hw (mX5_survives e17) kXX5_survives ck5 rfl kb17 w382 w384 v3 ⟨Nat.le_of_ble_eq_true rfl, Nat.le_of_ble_eq_true rfl⟩ rfl hl.1 (rest := []) rfl (Nat.le_of_ble_eq_true rfl) dX5_keepEntries_71 (mc := 0) (ms := 0) rfl rfl ⟨by show _ + 0 ≤ 0; omega, by show _ + 0 ≤ 0; omega⟩ (fun H locs hw => ?_)
                refine W.eq (g2 := F0 m 74 ls [.int z17]) rfl ?_
                refine lv_if_ne (tgt := 79) hx hb dX5_keepEntries_74 (by decide) (fun c18 => ?_) (fun c18 => ?_)
                · have hf := ie hf c18
                  exact bX5_keepEntries_79 C hn hk2 _ _ _ _ _ _ hf _ _ _ _ _ (by omega) (by omega) hw (lv_sub hl [2, 3, 4, 5] rfl)
                · have hf := ip hf c18
                  refine lv_iconst (v := (0 : Int32)) hx hb dX5_keepEntries_77 (by decide) ?_
                  obtain ⟨rfl, rfl⟩ := sp hf
                  exact r_iret C hw rfl (nz (Or.inl rfl)) (by omega) (by omega) dX5_keepEntries_78
            · have hf := ip hf c13
              refine lv_goto (tgt := 79) hx hb dX5_keepEntries_56 (by decide) ?_
              exact bX5_keepEntries_79 C hn hk2 _ _ _ _ _ _ hf _ _ _ _ _ (by omega) (by omega) hw (lv_sub hl [2, 3, 4, 5] rfl)
set_option maxRecDepth 100000 in
set_option maxHeartbeats 4000000 in
theorem bX5_keepEntries_2 {D : va_G} {cy : Nat → ClassId} {s0 : Nat} {p : Program} {l : Launch} {e : Env} {s : State} {m : MethodId} {args : Array Value} {below : List Frame} {meth : Method} {c : Code} (C : CX D cy s0 p s m args meth c cX5_keepEntries 6 RX5 (some .boolean)) (hn : meth.name = "keepEntries") : ∀ (n : Nat) (x0 : Nat) (x1 : Nat) (x2 : Int32) (x3 : Int32) (h : Hp) (r : Int32 × Hp), fX5_keepEntries_2 n x0 x1 x2 x3 h = some r → pX5_keepEntries_2 D cy s0 p l e s m args below meth c r x0 x1 x2 x3 h := by
  intro n
  induction n with
  | zero => intro x0 x1 x2 x3 h r hf; exact absurd hf (fun q => by cases q)
  | succ n ih => exact bX5_keepEntries_2_body C hn ih
set_option maxRecDepth 100000 in
set_option maxHeartbeats 4000000 in
theorem bX5_keepEntries {D : va_G} {cy : Nat → ClassId} {s0 : Nat} {p : Program} {l : Launch} {e : Env} {s : State} {m : MethodId} {args : Array Value} {below : List Frame} {meth : Method} {c : Code} (C : CX D cy s0 p s m args meth c cX5_keepEntries 6 RX5 (some .boolean)) (hn : meth.name = "keepEntries") : ∀ (x0 : Nat) (x1 : Nat) (x2 : Int32) (h : Hp) (r : Int32 × Hp), fX5_keepEntries x0 x1 x2 h = some r → pX5_keepEntries D cy s0 p l e s m args below meth c r x0 x1 x2 h := by
  intro x0 x1 x2 h ⟨rv, rh⟩ hf H locs ls cells slots hc hs hw hl
  unfold fX5_keepEntries at hf
  have hx := C.1
  have hb := C.2.1
  refine lv_iconst (v := (0 : Int32)) hx hb dX5_keepEntries_0 (by decide) ?_
  refine lv_istore_n (lv' := [(3, .int (0 : Int32)), (0, .ref x0), (1, .ref x1), (2, .int x2)]) hx hb dX5_keepEntries_1 rfl hl (by decide) rfl (fun ls hl => ?_)
  exact bX5_keepEntries_2 C hn LF _ _ _ _ _ _ hf _ _ _ _ _ (by omega) (by omega) hw (lv_sub hl [1, 2, 3, 0] rfl)
theorem kXX5_keepEntries : MK yX5_keepEntries cX5_keepEntries 6 (some .boolean) 2 := ⟨w578, w6, by decide +kernel⟩
theorem mX5_keepEntries {D : va_G} {cy : Nat → ClassId} {s0 : Nat} {l : Launch} {x0 : Nat} {x1 : Nat} {x2 : Int32} {h : Hp} {v : Int32} {h1 : Hp} (hf : fX5_keepEntries x0 x1 x2 h = some (v, h1)) : MT D cy s0 l yX5_keepEntries cX5_keepEntries 6 (some .boolean) rX5_keepEntries [.ref x0, .ref x1, .int x2] h (some (.int v)) h1 := by
  refine MT.of (by decide +kernel) (Nat.le_of_ble_eq_true rfl) ?_
  intro p e s m below meth c H locs ls C hn hw hl
  exact bX5_keepEntries C hn _ _ _ _ _ hf _ _ _ _ _ (Nat.le_of_ble_eq_true rfl) (Nat.le_of_ble_eq_true rfl) hw hl
abbrev rX5_handleAppend : Room := { frames := 3, cells := 1, slots := 9, locals := 73 }
abbrev pX5_handleAppend_83 (D : va_G) (cy : Nat → ClassId) (s0 : Nat) (p : Program) (l : Launch) (e : Env) (s : State) (m : MethodId) (args : Array Value) (below : List Frame) (meth : Method) (c : Code) (r : Unit × Hp) (x0 : Nat) (x1 : Nat) (x2 : Int32) (h : Hp) : Prop := ∀ (H : Heap) (locs : List Loc) (ls : Array Slot) (cells slots : Nat), cells + (1) ≤ 1 → slots + (9) ≤ 9 → WS D cy s0 s h H locs → lv_has ls 4 [(0, .ref x0), (1, .ref x1), (2, .int x2)] → W p l e rX5_handleAppend s m args below meth c H locs cells slots (MQ below (QQ D cy s0 none r.2) args s 1 9 (fun q => s0 ≤ q)) (F0 m 83 ls [])
abbrev pX5_handleAppend (D : va_G) (cy : Nat → ClassId) (s0 : Nat) (p : Program) (l : Launch) (e : Env) (s : State) (m : MethodId) (args : Array Value) (below : List Frame) (meth : Method) (c : Code) (r : Unit × Hp) (x0 : Nat) (x1 : Nat) (h : Hp) : Prop := ∀ (H : Heap) (locs : List Loc) (ls : Array Slot) (cells slots : Nat), cells + (1) ≤ 1 → slots + (9) ≤ 9 → WS D cy s0 s h H locs → lv_has ls 4 [(0, .ref x0), (1, .ref x1)] → W p l e rX5_handleAppend s m args below meth c H locs cells slots (MQ below (QQ D cy s0 none r.2) args s 1 9 (fun q => s0 ≤ q)) (F0 m 0 ls [])
set_option maxRecDepth 100000 in
set_option maxHeartbeats 4000000 in
theorem bX5_handleAppend_83 {D : va_G} {cy : Nat → ClassId} {s0 : Nat} {p : Program} {l : Launch} {e : Env} {s : State} {m : MethodId} {args : Array Value} {below : List Frame} {meth : Method} {c : Code} (C : CX D cy s0 p s m args meth c cX5_handleAppend 4 RX5 none) (hn : meth.name = "handleAppend") : ∀ (x0 : Nat) (x1 : Nat) (x2 : Int32) (h : Hp) (r : Unit × Hp), fX5_handleAppend_83 x0 x1 x2 h = some r → pX5_handleAppend_83 D cy s0 p l e s m args below meth c r x0 x1 x2 h := by
  intro x0 x1 x2 h ⟨rv, rh⟩ hf H locs ls cells slots hc hs hw hl
  unfold fX5_handleAppend_83 at hf
  have hx := C.1
  have hb := C.2.1
  refine lv_aload_n hx hb dX5_handleAppend_83 rfl (lv_at hl 0 rfl) ?_
  refine lv_aload_n hx hb dX5_handleAppend_84 rfl (lv_at hl 1 rfl) ?_
  refine lv_iload_n hx hb dX5_handleAppend_85 rfl (lv_at hl 2 rfl) ?_
  obtain ⟨kb1, hf⟩ := ig hf
  obtain ⟨z1, h1, e1, hf⟩ := ob2 hf
  refine r_callV C hw (mX5_keepEntries e1) kXX5_keepEntries ck5 rfl kb1 w575 w577 v12 ⟨Nat.le_of_ble_eq_true rfl, Nat.le_of_ble_eq_true rfl⟩ rfl hl.1 (rest := []) rfl (Nat.le_of_ble_eq_true rfl) dX5_handleAppend_86 (mc := 0) (ms := 0) rfl rfl ⟨by show _ + 0 ≤ 1; omega, by show _ + 0 ≤ 9; omega⟩ (fun H locs hw => ?_)
  refine W.eq (g2 := F0 m 89 ls [.int z1]) rfl ?_
  refine lv_if_ne (tgt := 93) hx hb dX5_handleAppend_89 (by decide) (fun c2 => ?_) (fun c2 => ?_)
  · have hf := ie hf c2
    refine lv_aload_n hx hb dX5_handleAppend_93 rfl (lv_at hl 1 rfl) ?_
    obtain ⟨z3, e3, hf⟩ := ob hf
    refine r_gI C hw e3 ck4 rfl (by decide) w414 dX5_handleAppend_94 ?_
    refine lv_aload_n hx hb dX5_handleAppend_97 rfl (lv_at hl 1 rfl) ?_
    obtain ⟨kb4, hf⟩ := ig hf
    obtain ⟨z4, h4, e4, hf⟩ := ob2 hf
    refine r_callV C hw (mX4_entryCount e4) kXX4_entryCount ck4 rfl kb4 w579 w580 w581 ⟨Nat.le_of_ble_eq_true rfl, Nat.le_of_ble_eq_true rfl⟩ rfl hl.1 (rest := [.int z3]) rfl (Nat.le_of_ble_eq_true rfl) dX5_handleAppend_98 (mc := 0) (ms := 0) rfl rfl ⟨by show _ + 0 ≤ 1; omega, by show _ + 0 ≤ 9; omega⟩ (fun H locs hw => ?_)
    refine W.eq (g2 := F0 m 101 ls [.int z4, .int z3]) rfl ?_
    refine lv_iadd hx hb dX5_handleAppend_101 ?_
    refine lv_istore_n (lv' := [(3, .int (z3 + z4)), (0, .ref x0), (1, .ref x1), (2, .int x2)]) hx hb dX5_handleAppend_102 rfl hl (by decide) rfl (fun ls hl => ?_)
    refine lv_aload_n hx hb dX5_handleAppend_103 rfl (lv_at hl 1 rfl) ?_
    refine lv_aload_n hx hb dX5_handleAppend_104 rfl (lv_at hl 1 rfl) ?_
    obtain ⟨z5, e5, hf⟩ := ob hf
    refine r_gI C hw e5 ck5 rfl (by decide) w200 dX5_handleAppend_105 ?_
    refine lv_aload_n hx hb dX5_handleAppend_108 rfl (lv_at hl 2 rfl) ?_
    obtain ⟨z6, e6, hf⟩ := ob hf
    refine r_gI C hw e6 ck4 rfl (by decide) w420 dX5_handleAppend_109 ?_
    refine lv_iload_n hx hb dX5_handleAppend_112 rfl (lv_at hl 0 rfl) ?_
    refine va_mmin hx hb (by rw [C.2.2.1]; exact hl.1.symm) C.2.2.2.1 (C.2.2.2.2.1 _ w583) (C.2.2.2.2.1 _ w566) (C.2.2.2.2.1 _ w18) (C.2.2.2.2.1 _ w567) (Nat.le_of_ble_eq_true rfl) (Nat.le_of_ble_eq_true rfl) (by show _ ≤ 1; omega) (by show _ ≤ 9; omega) dX5_handleAppend_113 ?_
    refine W.eq (g2 := F0 m 116 ls [.int (mn z6 (z3 + z4)), .int z5, .ref x0]) rfl ?_
    refine va_mmax hx hb (by rw [C.2.2.1]; exact hl.1.symm) C.2.2.2.1 (C.2.2.2.2.1 _ w584) (C.2.2.2.2.1 _ w569) (C.2.2.2.2.1 _ w18) (C.2.2.2.2.1 _ w570) (Nat.le_of_ble_eq_true rfl) (Nat.le_of_ble_eq_true rfl) (by show _ ≤ 1; omega) (by show _ ≤ 9; omega) dX5_handleAppend_116 ?_
    refine W.eq (g2 := F0 m 119 ls [.int (mx z5 (mn z6 (z3 + z4))), .ref x0]) rfl ?_
    obtain ⟨h7, e7, hf⟩ := ob hf
    refine r_pI C hw e7 ck5 rfl (by decide) rfl w200 (Or.inl rfl) dX5_handleAppend_119 (fun H locs hw => ?_)
    refine lv_aload_n hx hb dX5_handleAppend_122 rfl (lv_at hl 1 rfl) ?_
    refine lv_aload_n hx hb dX5_handleAppend_123 rfl (lv_at hl 2 rfl) ?_
    refine lv_iconst (v := (3 : Int32)) hx hb dX5_handleAppend_124 (by decide) ?_
    refine lv_iload_n hx hb dX5_handleAppend_125 rfl (lv_at hl 0 rfl) ?_
    refine lv_iload_n hx hb dX5_handleAppend_126 rfl (lv_at hl 3 rfl) ?_
    refine va_mmax hx hb (by rw [C.2.2.1]; exact hl.1.symm) C.2.2.2.1 (C.2.2.2.2.1 _ w584) (C.2.2.2.2.1 _ w569) (C.2.2.2.2.1 _ w18) (C.2.2.2.2.1 _ w570) (Nat.le_of_ble_eq_true rfl) (Nat.le_of_ble_eq_true rfl) (by show _ ≤ 1; omega) (by show _ ≤ 9; omega) dX5_handleAppend_127 ?_
    refine W.eq (g2 := F0 m 130 ls [.int (mx (z3 + z4) x2), .int (3 : Int32), .ref x1, .ref x0]) rfl ?_
    obtain ⟨kb8, hf⟩ := ig hf
    obtain ⟨z8, h8, e8, hf⟩ := ob2 hf
    refine r_callV C hw (mX5_reply e8) kXX5_reply ck5 rfl kb8 w468 w470 v6 ⟨Nat.le_of_ble_eq_true rfl, Nat.le_of_ble_eq_true rfl⟩ rfl hl.1 (rest := []) rfl (Nat.le_of_ble_eq_true rfl) dX5_handleAppend_130 (mc := 1) (ms := 9) rfl rfl ⟨by show _ + 1 ≤ 1; omega, by show _ + 9 ≤ 9; omega⟩ (fun H locs hw => ?_)
    refine W.eq (g2 := F0 m 133 ls []) rfl ?_
    obtain ⟨rfl, rfl⟩ := sp hf
    exact r_vret C hw rfl (by omega) (by omega) dX5_handleAppend_133
  · have hf := ip hf c2
    obtain ⟨rfl, rfl⟩ := sp hf
    exact r_vret C hw rfl (by omega) (by omega) dX5_handleAppend_92
set_option maxRecDepth 100000 in
set_option maxHeartbeats 4000000 in
theorem bX5_handleAppend {D : va_G} {cy : Nat → ClassId} {s0 : Nat} {p : Program} {l : Launch} {e : Env} {s : State} {m : MethodId} {args : Array Value} {below : List Frame} {meth : Method} {c : Code} (C : CX D cy s0 p s m args meth c cX5_handleAppend 4 RX5 none) (hn : meth.name = "handleAppend") : ∀ (x0 : Nat) (x1 : Nat) (h : Hp) (r : Unit × Hp), fX5_handleAppend x0 x1 h = some r → pX5_handleAppend D cy s0 p l e s m args below meth c r x0 x1 h := by
  intro x0 x1 h ⟨rv, rh⟩ hf H locs ls cells slots hc hs hw hl
  unfold fX5_handleAppend at hf
  have hx := C.1
  have hb := C.2.1
  refine lv_aload_n hx hb dX5_handleAppend_0 rfl (lv_at hl 0 rfl) ?_
  refine lv_iconst (v := (0 : Int32)) hx hb dX5_handleAppend_1 (by decide) ?_
  obtain ⟨h1, e1, hf⟩ := ob hf
  refine r_pI C hw e1 ck5 rfl (by decide) rfl w197 (Or.inl rfl) dX5_handleAppend_2 (fun H locs hw => ?_)
  refine lv_aload_n hx hb dX5_handleAppend_5 rfl (lv_at hl 0 rfl) ?_
  obtain ⟨z2, e2, hf⟩ := ob hf
  refine r_gR C hw e2 ck5 rfl (by decide) w189 dX5_handleAppend_6 ?_
  cases z2 with
  | none =>
    have hf := on_n hf
    cases hf
  | some a3 =>
    have hf := on_s hf
    refine W.eq (g2 := F0 m 9 ls [.ref a3]) rfl ?_
    obtain ⟨z4, e4, hf⟩ := ob hf
    refine r_gR C hw e4 ck1 rfl (by decide) w171 dX5_handleAppend_9 ?_
    cases z4 with
    | none =>
      have hf := on_n hf
      cases hf
    | some a5 =>
      have hf := on_s hf
      refine W.eq (g2 := F0 m 12 ls [.ref a5]) rfl ?_
      obtain ⟨z6, e6, hf⟩ := ob hf
      refine r_gI C hw e6 ck6 rfl (by decide) w135 dX5_handleAppend_12 ?_
      refine lv_istore_n (lv' := [(2, .int z6), (0, .ref x0), (1, .ref x1)]) hx hb dX5_handleAppend_15 rfl hl (by decide) rfl (fun ls hl => ?_)
      refine lv_aload_n hx hb dX5_handleAppend_16 rfl (lv_at hl 2 rfl) ?_
      obtain ⟨z7, e7, hf⟩ := ob hf
      refine r_gI C hw e7 ck4 rfl (by decide) w414 dX5_handleAppend_17 ?_
      refine lv_aload_n hx hb dX5_handleAppend_20 rfl (lv_at hl 1 rfl) ?_
      obtain ⟨z8, e8, hf⟩ := ob hf
      refine r_gR C hw e8 ck5 rfl (by decide) w189 dX5_handleAppend_21 ?_
      cases z8 with
      | none =>
        have hf := on_n hf
        cases hf
      | some a9 =>
        have hf := on_s hf
        refine W.eq (g2 := F0 m 24 ls [.ref a9, .int z7]) rfl ?_
        obtain ⟨z10, e10, hf⟩ := ob hf
        refine r_gI C hw e10 ck1 rfl (by decide) w166 dX5_handleAppend_24 ?_
        refine lv_icmp_le (tgt := 44) hx hb dX5_handleAppend_27 (by decide) (fun c11 => ?_) (fun c11 => ?_)
        · have hf := ip hf c11
          refine lv_aload_n hx hb dX5_handleAppend_44 rfl (lv_at hl 2 rfl) ?_
          obtain ⟨z12, e12, hf⟩ := ob hf
          refine r_gI C hw e12 ck4 rfl (by decide) w414 dX5_handleAppend_45 ?_
          refine lv_iload_n hx hb dX5_handleAppend_48 rfl (lv_at hl 0 rfl) ?_
          refine lv_icmp_lt (tgt := 83) hx hb dX5_handleAppend_49 (by decide) (fun c13 => ?_) (fun c13 => ?_)
          · have hf := ip hf c13
            exact bX5_handleAppend_83 C hn _ _ _ _ _ hf _ _ _ _ _ (by omega) (by omega) hw (lv_sub hl [1, 2, 0] rfl)
          · have hf := ie hf c13
            refine lv_aload_n hx hb dX5_handleAppend_52 rfl (lv_at hl 1 rfl) ?_
            obtain ⟨z14, e14, hf⟩ := ob hf
            refine r_gR C hw e14 ck5 rfl (by decide) w189 dX5_handleAppend_53 ?_
            cases z14 with
            | none =>
              have hf := on_n hf
              cases hf
            | some a15 =>
              have hf := on_s hf
              refine W.eq (g2 := F0 m 56 ls [.ref a15]) rfl ?_
              refine lv_aload_n hx hb dX5_handleAppend_56 rfl (lv_at hl 2 rfl) ?_
              obtain ⟨z16, e16, hf⟩ := ob hf
              refine r_gI C hw e16 ck4 rfl (by decide) w414 dX5_handleAppend_57 ?_
              obtain ⟨kb17, hf⟩ := ig hf
              obtain ⟨z17, h17, e17, hf⟩ := ob2 hf
              refine r_callV C hw (mX1_termAt e17) kXX1_termAt ck1 rfl kb17 w390 w391 w392 ⟨Nat.le_of_ble_eq_true rfl, Nat.le_of_ble_eq_true rfl⟩ rfl hl.1 (rest := []) rfl (Nat.le_of_ble_eq_true rfl) dX5_handleAppend_60 (mc := 0) (ms := 0) rfl rfl ⟨by show _ + 0 ≤ 1; omega, by show _ + 0 ≤ 9; omega⟩ (fun H locs hw => ?_)
              refine W.eq (g2 := F0 m 63 ls [.int z17]) rfl ?_
              refine lv_aload_n hx hb dX5_handleAppend_63 rfl (lv_at hl 2 rfl) ?_
              obtain ⟨z18, e18, hf⟩ := ob hf
              refine r_gI C hw e18 ck4 rfl (by decide) w416 dX5_handleAppend_64 ?_
              refine lv_icmp_eq (tgt := 83) hx hb dX5_handleAppend_67 (by decide) (fun c19 => ?_) (fun c19 => ?_)
              · have hf := ip hf c19
                exact bX5_handleAppend_83 C hn _ _ _ _ _ hf _ _ _ _ _ (by omega) (by omega) hw (lv_sub hl [1, 2, 0] rfl)
              · have hf := ie hf c19
                refine lv_aload_n hx hb dX5_handleAppend_70 rfl (lv_at hl 1 rfl) ?_
                refine lv_aload_n hx hb dX5_handleAppend_71 rfl (lv_at hl 2 rfl) ?_
                refine lv_iconst (v := (4 : Int32)) hx hb dX5_handleAppend_72 (by decide) ?_
                refine lv_aload_n hx hb dX5_handleAppend_73 rfl (lv_at hl 2 rfl) ?_
                obtain ⟨z20, e20, hf⟩ := ob hf
                refine r_gI C hw e20 ck4 rfl (by decide) w414 dX5_handleAppend_74 ?_
                refine lv_iconst (v := (1 : Int32)) hx hb dX5_handleAppend_77 (by decide) ?_
                refine lv_isub hx hb dX5_handleAppend_78 ?_
                obtain ⟨kb21, hf⟩ := ig hf
                obtain ⟨z21, h21, e21, hf⟩ := ob2 hf
                refine r_callV C hw (mX5_reply e21) kXX5_reply ck5 rfl kb21 w468 w470 v6 ⟨Nat.le_of_ble_eq_true rfl, Nat.le_of_ble_eq_true rfl⟩ rfl hl.1 (rest := []) rfl (Nat.le_of_ble_eq_true rfl) dX5_handleAppend_79 (mc := 1) (ms := 9) rfl rfl ⟨by show _ + 1 ≤ 1; omega, by show _ + 9 ≤ 9; omega⟩ (fun H locs hw => ?_)
                refine W.eq (g2 := F0 m 82 ls []) rfl ?_
                obtain ⟨rfl, rfl⟩ := sp hf
                exact r_vret C hw rfl (by omega) (by omega) dX5_handleAppend_82
        · have hf := ie hf c11
          refine lv_aload_n hx hb dX5_handleAppend_30 rfl (lv_at hl 1 rfl) ?_
          refine lv_aload_n hx hb dX5_handleAppend_31 rfl (lv_at hl 2 rfl) ?_
          refine lv_iconst (v := (4 : Int32)) hx hb dX5_handleAppend_32 (by decide) ?_
          refine lv_aload_n hx hb dX5_handleAppend_33 rfl (lv_at hl 1 rfl) ?_
          obtain ⟨z24, e24, hf⟩ := ob hf
          refine r_gR C hw e24 ck5 rfl (by decide) w189 dX5_handleAppend_34 ?_
          cases z24 with
          | none =>
            have hf := on_n hf
            cases hf
          | some a25 =>
            have hf := on_s hf
            refine W.eq (g2 := F0 m 37 ls [.ref a25, .int (4 : Int32), .ref x1, .ref x0]) rfl ?_
            obtain ⟨z26, e26, hf⟩ := ob hf
            refine r_gI C hw e26 ck1 rfl (by decide) w166 dX5_handleAppend_37 ?_
            obtain ⟨kb27, hf⟩ := ig hf
            obtain ⟨z27, h27, e27, hf⟩ := ob2 hf
            refine r_callV C hw (mX5_reply e27) kXX5_reply ck5 rfl kb27 w468 w470 v6 ⟨Nat.le_of_ble_eq_true rfl, Nat.le_of_ble_eq_true rfl⟩ rfl hl.1 (rest := []) rfl (Nat.le_of_ble_eq_true rfl) dX5_handleAppend_40 (mc := 1) (ms := 9) rfl rfl ⟨by show _ + 1 ≤ 1; omega, by show _ + 9 ≤ 9; omega⟩ (fun H locs hw => ?_)
            refine W.eq (g2 := F0 m 43 ls []) rfl ?_
            obtain ⟨rfl, rfl⟩ := sp hf
            exact r_vret C hw rfl (by omega) (by omega) dX5_handleAppend_43
theorem kXX5_handleAppend : MK yX5_handleAppend cX5_handleAppend 4 none 1 := ⟨w574, w6, by decide +kernel⟩
theorem mX5_handleAppend {D : va_G} {cy : Nat → ClassId} {s0 : Nat} {l : Launch} {x0 : Nat} {x1 : Nat} {h : Hp} {v : Unit} {h1 : Hp} (hf : fX5_handleAppend x0 x1 h = some (v, h1)) : MT D cy s0 l yX5_handleAppend cX5_handleAppend 4 none rX5_handleAppend [.ref x0, .ref x1] h none h1 := by
  refine MT.of (by decide +kernel) (Nat.le_of_ble_eq_true rfl) ?_
  intro p e s m below meth c H locs ls C hn hw hl
  exact bX5_handleAppend C hn _ _ _ _ hf _ _ _ _ _ (Nat.le_of_ble_eq_true rfl) (Nat.le_of_ble_eq_true rfl) hw hl
abbrev rX5_handleAsk : Room := { frames := 3, cells := 1, slots := 9, locals := 73 }
abbrev pX5_handleAsk_140 (D : va_G) (cy : Nat → ClassId) (s0 : Nat) (p : Program) (l : Launch) (e : Env) (s : State) (m : MethodId) (args : Array Value) (below : List Frame) (meth : Method) (c : Code) (r : Unit × Hp) (x0 : Nat) (x1 : Nat) (h : Hp) : Prop := ∀ (H : Heap) (locs : List Loc) (ls : Array Slot) (cells slots : Nat), cells + (1) ≤ 1 → slots + (9) ≤ 9 → WS D cy s0 s h H locs → lv_has ls 5 [(0, .ref x0), (1, .ref x1)] → W p l e rX5_handleAsk s m args below meth c H locs cells slots (MQ below (QQ D cy s0 none r.2) args s 1 9 (fun q => s0 ≤ q)) (F0 m 140 ls [])
abbrev pX5_handleAsk_92 (D : va_G) (cy : Nat → ClassId) (s0 : Nat) (p : Program) (l : Launch) (e : Env) (s : State) (m : MethodId) (args : Array Value) (below : List Frame) (meth : Method) (c : Code) (r : Unit × Hp) (x0 : Nat) (x1 : Nat) (h : Hp) : Prop := ∀ (H : Heap) (locs : List Loc) (ls : Array Slot) (cells slots : Nat), cells + (1) ≤ 1 → slots + (9) ≤ 9 → WS D cy s0 s h H locs → lv_has ls 5 [(0, .ref x0), (1, .ref x1)] → W p l e rX5_handleAsk s m args below meth c H locs cells slots (MQ below (QQ D cy s0 none r.2) args s 1 9 (fun q => s0 ≤ q)) (F0 m 92 ls [])
abbrev pX5_handleAsk_81 (D : va_G) (cy : Nat → ClassId) (s0 : Nat) (p : Program) (l : Launch) (e : Env) (s : State) (m : MethodId) (args : Array Value) (below : List Frame) (meth : Method) (c : Code) (r : Unit × Hp) (x0 : Nat) (x1 : Nat) (x3 : Int32) (y0 : Int32) (h : Hp) : Prop := ∀ (H : Heap) (locs : List Loc) (ls : Array Slot) (cells slots : Nat), cells + (1) ≤ 1 → slots + (9) ≤ 9 → WS D cy s0 s h H locs → lv_has ls 5 [(0, .ref x0), (1, .ref x1), (3, .int x3)] → W p l e rX5_handleAsk s m args below meth c H locs cells slots (MQ below (QQ D cy s0 none r.2) args s 1 9 (fun q => s0 ≤ q)) (F0 m 81 ls [.int y0])
abbrev pX5_handleAsk_80 (D : va_G) (cy : Nat → ClassId) (s0 : Nat) (p : Program) (l : Launch) (e : Env) (s : State) (m : MethodId) (args : Array Value) (below : List Frame) (meth : Method) (c : Code) (r : Unit × Hp) (x0 : Nat) (x1 : Nat) (x3 : Int32) (h : Hp) : Prop := ∀ (H : Heap) (locs : List Loc) (ls : Array Slot) (cells slots : Nat), cells + (1) ≤ 1 → slots + (9) ≤ 9 → WS D cy s0 s h H locs → lv_has ls 5 [(0, .ref x0), (1, .ref x1), (3, .int x3)] → W p l e rX5_handleAsk s m args below meth c H locs cells slots (MQ below (QQ D cy s0 none r.2) args s 1 9 (fun q => s0 ≤ q)) (F0 m 80 ls [])
abbrev pX5_handleAsk_76 (D : va_G) (cy : Nat → ClassId) (s0 : Nat) (p : Program) (l : Launch) (e : Env) (s : State) (m : MethodId) (args : Array Value) (below : List Frame) (meth : Method) (c : Code) (r : Unit × Hp) (x0 : Nat) (x1 : Nat) (x3 : Int32) (h : Hp) : Prop := ∀ (H : Heap) (locs : List Loc) (ls : Array Slot) (cells slots : Nat), cells + (1) ≤ 1 → slots + (9) ≤ 9 → WS D cy s0 s h H locs → lv_has ls 5 [(0, .ref x0), (1, .ref x1), (3, .int x3)] → W p l e rX5_handleAsk s m args below meth c H locs cells slots (MQ below (QQ D cy s0 none r.2) args s 1 9 (fun q => s0 ≤ q)) (F0 m 76 ls [])
abbrev pX5_handleAsk_45 (D : va_G) (cy : Nat → ClassId) (s0 : Nat) (p : Program) (l : Launch) (e : Env) (s : State) (m : MethodId) (args : Array Value) (below : List Frame) (meth : Method) (c : Code) (r : Unit × Hp) (x0 : Nat) (x1 : Nat) (x2 : Int32) (y0 : Int32) (h : Hp) : Prop := ∀ (H : Heap) (locs : List Loc) (ls : Array Slot) (cells slots : Nat), cells + (1) ≤ 1 → slots + (9) ≤ 9 → WS D cy s0 s h H locs → lv_has ls 5 [(0, .ref x0), (1, .ref x1), (2, .int x2)] → W p l e rX5_handleAsk s m args below meth c H locs cells slots (MQ below (QQ D cy s0 none r.2) args s 1 9 (fun q => s0 ≤ q)) (F0 m 45 ls [.int y0])
abbrev pX5_handleAsk_40 (D : va_G) (cy : Nat → ClassId) (s0 : Nat) (p : Program) (l : Launch) (e : Env) (s : State) (m : MethodId) (args : Array Value) (below : List Frame) (meth : Method) (c : Code) (r : Unit × Hp) (x0 : Nat) (x1 : Nat) (x2 : Int32) (h : Hp) : Prop := ∀ (H : Heap) (locs : List Loc) (ls : Array Slot) (cells slots : Nat), cells + (1) ≤ 1 → slots + (9) ≤ 9 → WS D cy s0 s h H locs → lv_has ls 5 [(0, .ref x0), (1, .ref x1), (2, .int x2)] → W p l e rX5_handleAsk s m args below meth c H locs cells slots (MQ below (QQ D cy s0 none r.2) args s 1 9 (fun q => s0 ≤ q)) (F0 m 40 ls [])
abbrev pX5_handleAsk (D : va_G) (cy : Nat → ClassId) (s0 : Nat) (p : Program) (l : Launch) (e : Env) (s : State) (m : MethodId) (args : Array Value) (below : List Frame) (meth : Method) (c : Code) (r : Unit × Hp) (x0 : Nat) (x1 : Nat) (h : Hp) : Prop := ∀ (H : Heap) (locs : List Loc) (ls : Array Slot) (cells slots : Nat), cells + (1) ≤ 1 → slots + (9) ≤ 9 → WS D cy s0 s h H locs → lv_has ls 5 [(0, .ref x0), (1, .ref x1)] → W p l e rX5_handleAsk s m args below meth c H locs cells slots (MQ below (QQ D cy s0 none r.2) args s 1 9 (fun q => s0 ≤ q)) (F0 m 0 ls [])
set_option maxRecDepth 100000 in
set_option maxHeartbeats 4000000 in
theorem bX5_handleAsk_140 {D : va_G} {cy : Nat → ClassId} {s0 : Nat} {p : Program} {l : Launch} {e : Env} {s : State} {m : MethodId} {args : Array Value} {below : List Frame} {meth : Method} {c : Code} (C : CX D cy s0 p s m args meth c cX5_handleAsk 5 RX5 none) (hn : meth.name = "handleAsk") : ∀ (x0 : Nat) (x1 : Nat) (h : Hp) (r : Unit × Hp), fX5_handleAsk_140 x0 x1 h = some r → pX5_handleAsk_140 D cy s0 p l e s m args below meth c r x0 x1 h := by
  intro x0 x1 h ⟨rv, rh⟩ hf H locs ls cells slots hc hs hw hl
  unfold fX5_handleAsk_140 at hf
  have hx := C.1
  have hb := C.2.1
  refine lv_aload_n hx hb dX5_handleAsk_140 rfl (lv_at hl 0 rfl) ?_
  refine lv_aload_n hx hb dX5_handleAsk_141 rfl (lv_at hl 1 rfl) ?_
  refine lv_iconst (v := (1 : Int32)) hx hb dX5_handleAsk_142 (by decide) ?_
  refine lv_iconst (v := (1 : Int32)) hx hb dX5_handleAsk_143 (by decide) ?_
  obtain ⟨kb1, hf⟩ := ig hf
  obtain ⟨z1, h1, e1, hf⟩ := ob2 hf
  refine r_callV C hw (mX5_reply e1) kXX5_reply ck5 rfl kb1 w468 w470 v6 ⟨Nat.le_of_ble_eq_true rfl, Nat.le_of_ble_eq_true rfl⟩ rfl hl.1 (rest := []) rfl (Nat.le_of_ble_eq_true rfl) dX5_handleAsk_144 (mc := 1) (ms := 9) rfl rfl ⟨by show _ + 1 ≤ 1; omega, by show _ + 9 ≤ 9; omega⟩ (fun H locs hw => ?_)
  refine W.eq (g2 := F0 m 147 ls []) rfl ?_
  obtain ⟨rfl, rfl⟩ := sp hf
  exact r_vret C hw rfl (by omega) (by omega) dX5_handleAsk_147
set_option maxRecDepth 100000 in
set_option maxHeartbeats 4000000 in
theorem bX5_handleAsk_92 {D : va_G} {cy : Nat → ClassId} {s0 : Nat} {p : Program} {l : Launch} {e : Env} {s : State} {m : MethodId} {args : Array Value} {below : List Frame} {meth : Method} {c : Code} (C : CX D cy s0 p s m args meth c cX5_handleAsk 5 RX5 none) (hn : meth.name = "handleAsk") : ∀ (x0 : Nat) (x1 : Nat) (h : Hp) (r : Unit × Hp), fX5_handleAsk_92 x0 x1 h = some r → pX5_handleAsk_92 D cy s0 p l e s m args below meth c r x0 x1 h := by
  intro x0 x1 h ⟨rv, rh⟩ hf H locs ls cells slots hc hs hw hl
  unfold fX5_handleAsk_92 at hf
  have hx := C.1
  have hb := C.2.1
  refine lv_aload_n hx hb dX5_handleAsk_92 rfl (lv_at hl 0 rfl) ?_
  refine lv_aload_n hx hb dX5_handleAsk_93 rfl (lv_at hl 1 rfl) ?_
  refine lv_iconst (v := (1 : Int32)) hx hb dX5_handleAsk_94 (by decide) ?_
  refine lv_iconst (v := (0 : Int32)) hx hb dX5_handleAsk_95 (by decide) ?_
  obtain ⟨kb1, hf⟩ := ig hf
  obtain ⟨z1, h1, e1, hf⟩ := ob2 hf
  refine r_callV C hw (mX5_reply e1) kXX5_reply ck5 rfl kb1 w468 w470 v6 ⟨Nat.le_of_ble_eq_true rfl, Nat.le_of_ble_eq_true rfl⟩ rfl hl.1 (rest := []) rfl (Nat.le_of_ble_eq_true rfl) dX5_handleAsk_96 (mc := 1) (ms := 9) rfl rfl ⟨by show _ + 1 ≤ 1; omega, by show _ + 9 ≤ 9; omega⟩ (fun H locs hw => ?_)
  refine W.eq (g2 := F0 m 99 ls []) rfl ?_
  obtain ⟨rfl, rfl⟩ := sp hf
  exact r_vret C hw rfl (by omega) (by omega) dX5_handleAsk_99
set_option maxRecDepth 100000 in
set_option maxHeartbeats 4000000 in
theorem bX5_handleAsk_81 {D : va_G} {cy : Nat → ClassId} {s0 : Nat} {p : Program} {l : Launch} {e : Env} {s : State} {m : MethodId} {args : Array Value} {below : List Frame} {meth : Method} {c : Code} (C : CX D cy s0 p s m args meth c cX5_handleAsk 5 RX5 none) (hn : meth.name = "handleAsk") : ∀ (x0 : Nat) (x1 : Nat) (x3 : Int32) (y0 : Int32) (h : Hp) (r : Unit × Hp), fX5_handleAsk_81 x0 x1 x3 y0 h = some r → pX5_handleAsk_81 D cy s0 p l e s m args below meth c r x0 x1 x3 y0 h := by
  intro x0 x1 x3 y0 h ⟨rv, rh⟩ hf H locs ls cells slots hc hs hw hl
  unfold fX5_handleAsk_81 at hf
  have hx := C.1
  have hb := C.2.1
  refine lv_istore (lv' := [(4, .int y0), (0, .ref x0), (1, .ref x1), (3, .int x3)]) hx hb dX5_handleAsk_81 hl (by decide) rfl (fun ls hl => ?_)
  refine lv_iload_n hx hb dX5_handleAsk_83 rfl (lv_at hl 3 rfl) ?_
  refine lv_if_eq (tgt := 92) hx hb dX5_handleAsk_84 (by decide) (fun c1 => ?_) (fun c1 => ?_)
  · have hf := ip hf c1
    exact bX5_handleAsk_92 C hn _ _ _ _ hf _ _ _ _ _ (by omega) (by omega) hw (lv_sub hl [1, 2] rfl)
  · have hf := ie hf c1
    refine lv_iload hx hb dX5_handleAsk_87 (lv_at hl 0 rfl) ?_
    refine lv_if_ne (tgt := 100) hx hb dX5_handleAsk_89 (by decide) (fun c2 => ?_) (fun c2 => ?_)
    · have hf := ie hf c2
      refine lv_aload_n hx hb dX5_handleAsk_100 rfl (lv_at hl 1 rfl) ?_
      obtain ⟨z3, e3, hf⟩ := ob hf
      refine r_gR C hw e3 ck5 rfl (by decide) w189 dX5_handleAsk_101 ?_
      cases z3 with
      | none =>
        have hf := on_n hf
        cases hf
      | some a4 =>
        have hf := on_s hf
        refine W.eq (g2 := F0 m 104 ls [.ref a4]) rfl ?_
        obtain ⟨z5, e5, hf⟩ := ob hf
        refine r_gI C hw e5 ck1 rfl (by decide) w165 dX5_handleAsk_104 ?_
        refine lv_aload_n hx hb dX5_handleAsk_107 rfl (lv_at hl 2 rfl) ?_
        obtain ⟨z6, e6, hf⟩ := ob hf
        refine r_gI C hw e6 ck4 rfl (by decide) w408 dX5_handleAsk_108 ?_
        refine lv_icmp_eq (tgt := 140) hx hb dX5_handleAsk_111 (by decide) (fun c7 => ?_) (fun c7 => ?_)
        · have hf := ip hf c7
          exact bX5_handleAsk_140 C hn _ _ _ _ hf _ _ _ _ _ (by omega) (by omega) hw (lv_sub hl [1, 2] rfl)
        · have hf := ie hf c7
          refine lv_aload_n hx hb dX5_handleAsk_114 rfl (lv_at hl 1 rfl) ?_
          refine lv_aload_n hx hb dX5_handleAsk_115 rfl (lv_at hl 1 rfl) ?_
          obtain ⟨z8, e8, hf⟩ := ob hf
          refine r_gR C hw e8 ck5 rfl (by decide) w189 dX5_handleAsk_116 ?_
          cases z8 with
          | none =>
            have hf := on_n hf
            cases hf
          | some a9 =>
            have hf := on_s hf
            refine W.eq (g2 := F0 m 119 ls [.ref a9, .ref x0]) rfl ?_
            refine lv_aload_n hx hb dX5_handleAsk_119 rfl (lv_at hl 1 rfl) ?_
            obtain ⟨z10, e10, hf⟩ := ob hf
            refine r_gR C hw e10 ck5 rfl (by decide) w189 dX5_handleAsk_120 ?_
            cases z10 with
            | none =>
              have hf := on_n hf
              cases hf
            | some a11 =>
              have hf := on_s hf
              refine W.eq (g2 := F0 m 123 ls [.ref a11, .ref a9, .ref x0]) rfl ?_
              obtain ⟨z12, e12, hf⟩ := ob hf
              refine r_gI C hw e12 ck1 rfl (by decide) w162 dX5_handleAsk_123 ?_
              refine lv_aload_n hx hb dX5_handleAsk_126 rfl (lv_at hl 2 rfl) ?_
              obtain ⟨z13, e13, hf⟩ := ob hf
              refine r_gI C hw e13 ck4 rfl (by decide) w408 dX5_handleAsk_127 ?_
              obtain ⟨kb14, hf⟩ := ig hf
              obtain ⟨z14, h14, e14, hf⟩ := ob2 hf
              refine r_callV C hw (mX1_recordVote e14) kXX1_recordVote ck1 rfl kb14 w374 w375 w376 ⟨Nat.le_of_ble_eq_true rfl, Nat.le_of_ble_eq_true rfl⟩ rfl hl.1 (rest := [.ref x0]) rfl (Nat.le_of_ble_eq_true rfl) dX5_handleAsk_130 (mc := 0) (ms := 0) rfl rfl ⟨by show _ + 0 ≤ 1; omega, by show _ + 0 ≤ 9; omega⟩ (fun H locs hw => ?_)
              refine W.eq (g2 := F0 m 133 ls [.int z14, .ref x0]) rfl ?_
              obtain ⟨kb15, hf⟩ := ig hf
              obtain ⟨z15, h15, e15, hf⟩ := ob2 hf
              refine r_callV C hw (mX5_survives e15) kXX5_survives ck5 rfl kb15 w382 w384 v3 ⟨Nat.le_of_ble_eq_true rfl, Nat.le_of_ble_eq_true rfl⟩ rfl hl.1 (rest := []) rfl (Nat.le_of_ble_eq_true rfl) dX5_handleAsk_133 (mc := 0) (ms := 0) rfl rfl ⟨by show _ + 0 ≤ 1; omega, by show _ + 0 ≤ 9; omega⟩ (fun H locs hw => ?_)
              refine W.eq (g2 := F0 m 136 ls [.int z15]) rfl ?_
              refine lv_if_ne (tgt := 140) hx hb dX5_handleAsk_136 (by decide) (fun c16 => ?_) (fun c16 => ?_)
              · have hf := ie hf c16
                exact bX5_handleAsk_140 C hn _ _ _ _ hf _ _ _ _ _ (by omega) (by omega) hw (lv_sub hl [1, 2] rfl)
              · have hf := ip hf c16
                obtain ⟨rfl, rfl⟩ := sp hf
                exact r_vret C hw rfl (by omega) (by omega) dX5_handleAsk_139
    · have hf := ip hf c2
      exact bX5_handleAsk_92 C hn _ _ _ _ hf _ _ _ _ _ (by omega) (by omega) hw (lv_sub hl [1, 2] rfl)
set_option maxRecDepth 100000 in
set_option maxHeartbeats 4000000 in
theorem bX5_handleAsk_80 {D : va_G} {cy : Nat → ClassId} {s0 : Nat} {p : Program} {l : Launch} {e : Env} {s : State} {m : MethodId} {args : Array Value} {below : List Frame} {meth : Method} {c : Code} (C : CX D cy s0 p s m args meth c cX5_handleAsk 5 RX5 none) (hn : meth.name = "handleAsk") : ∀ (x0 : Nat) (x1 : Nat) (x3 : Int32) (h : Hp) (r : Unit × Hp), fX5_handleAsk_80 x0 x1 x3 h = some r → pX5_handleAsk_80 D cy s0 p l e s m args below meth c r x0 x1 x3 h := by
  intro x0 x1 x3 h ⟨rv, rh⟩ hf H locs ls cells slots hc hs hw hl
  unfold fX5_handleAsk_80 at hf
  have hx := C.1
  have hb := C.2.1
  refine lv_iconst (v := (0 : Int32)) hx hb dX5_handleAsk_80 (by decide) ?_
  exact bX5_handleAsk_81 C hn _ _ _ _ _ _ hf _ _ _ _ _ (by omega) (by omega) hw (lv_sub hl [0, 1, 2] rfl)
set_option maxRecDepth 100000 in
set_option maxHeartbeats 4000000 in
theorem bX5_handleAsk_76 {D : va_G} {cy : Nat → ClassId} {s0 : Nat} {p : Program} {l : Launch} {e : Env} {s : State} {m : MethodId} {args : Array Value} {below : List Frame} {meth : Method} {c : Code} (C : CX D cy s0 p s m args meth c cX5_handleAsk 5 RX5 none) (hn : meth.name = "handleAsk") : ∀ (x0 : Nat) (x1 : Nat) (x3 : Int32) (h : Hp) (r : Unit × Hp), fX5_handleAsk_76 x0 x1 x3 h = some r → pX5_handleAsk_76 D cy s0 p l e s m args below meth c r x0 x1 x3 h := by
  intro x0 x1 x3 h ⟨rv, rh⟩ hf H locs ls cells slots hc hs hw hl
  unfold fX5_handleAsk_76 at hf
  have hx := C.1
  have hb := C.2.1
  refine lv_iconst (v := (1 : Int32)) hx hb dX5_handleAsk_76 (by decide) ?_
  refine lv_goto (tgt := 81) hx hb dX5_handleAsk_77 (by decide) ?_
  exact bX5_handleAsk_81 C hn _ _ _ _ _ _ hf _ _ _ _ _ (by omega) (by omega) hw (lv_sub hl [0, 1, 2] rfl)
set_option maxRecDepth 100000 in
set_option maxHeartbeats 4000000 in
theorem bX5_handleAsk_45 {D : va_G} {cy : Nat → ClassId} {s0 : Nat} {p : Program} {l : Launch} {e : Env} {s : State} {m : MethodId} {args : Array Value} {below : List Frame} {meth : Method} {c : Code} (C : CX D cy s0 p s m args meth c cX5_handleAsk 5 RX5 none) (hn : meth.name = "handleAsk") : ∀ (x0 : Nat) (x1 : Nat) (x2 : Int32) (y0 : Int32) (h : Hp) (r : Unit × Hp), fX5_handleAsk_45 x0 x1 x2 y0 h = some r → pX5_handleAsk_45 D cy s0 p l e s m args below meth c r x0 x1 x2 y0 h := by
  intro x0 x1 x2 y0 h ⟨rv, rh⟩ hf H locs ls cells slots hc hs hw hl
  unfold fX5_handleAsk_45 at hf
  have hx := C.1
  have hb := C.2.1
  refine lv_istore_n (lv' := [(3, .int y0), (0, .ref x0), (1, .ref x1), (2, .int x2)]) hx hb dX5_handleAsk_45 rfl hl (by decide) rfl (fun ls hl => ?_)
  refine lv_aload_n hx hb dX5_handleAsk_46 rfl (lv_at hl 2 rfl) ?_
  obtain ⟨z1, e1, hf⟩ := ob hf
  refine r_gI C hw e1 ck4 rfl (by decide) w416 dX5_handleAsk_47 ?_
  refine lv_iload_n hx hb dX5_handleAsk_50 rfl (lv_at hl 3 rfl) ?_
  refine lv_icmp_gt (tgt := 76) hx hb dX5_handleAsk_51 (by decide) (fun c2 => ?_) (fun c2 => ?_)
  · have hf := ip hf c2
    exact bX5_handleAsk_76 C hn _ _ _ _ _ hf _ _ _ _ _ (by omega) (by omega) hw (lv_sub hl [1, 2, 0] rfl)
  · have hf := ie hf c2
    refine lv_aload_n hx hb dX5_handleAsk_54 rfl (lv_at hl 2 rfl) ?_
    obtain ⟨z3, e3, hf⟩ := ob hf
    refine r_gI C hw e3 ck4 rfl (by decide) w416 dX5_handleAsk_55 ?_
    refine lv_iload_n hx hb dX5_handleAsk_58 rfl (lv_at hl 3 rfl) ?_
    refine lv_icmp_ne (tgt := 80) hx hb dX5_handleAsk_59 (by decide) (fun c4 => ?_) (fun c4 => ?_)
    · have hf := ie hf c4
      exact bX5_handleAsk_80 C hn _ _ _ _ _ hf _ _ _ _ _ (by omega) (by omega) hw (lv_sub hl [1, 2, 0] rfl)
    · have hf := ip hf c4
      refine lv_aload_n hx hb dX5_handleAsk_62 rfl (lv_at hl 2 rfl) ?_
      obtain ⟨z5, e5, hf⟩ := ob hf
      refine r_gI C hw e5 ck4 rfl (by decide) w414 dX5_handleAsk_63 ?_
      refine lv_aload_n hx hb dX5_handleAsk_66 rfl (lv_at hl 1 rfl) ?_
      obtain ⟨z6, e6, hf⟩ := ob hf
      refine r_gR C hw e6 ck5 rfl (by decide) w189 dX5_handleAsk_67 ?_
      cases z6 with
      | none =>
        have hf := on_n hf
        cases hf
      | some a7 =>
        have hf := on_s hf
        refine W.eq (g2 := F0 m 70 ls [.ref a7, .int z5]) rfl ?_
        obtain ⟨z8, e8, hf⟩ := ob hf
        refine r_gI C hw e8 ck1 rfl (by decide) w166 dX5_handleAsk_70 ?_
        refine lv_icmp_lt (tgt := 80) hx hb dX5_handleAsk_73 (by decide) (fun c9 => ?_) (fun c9 => ?_)
        · have hf := ip hf c9
          exact bX5_handleAsk_80 C hn _ _ _ _ _ hf _ _ _ _ _ (by omega) (by omega) hw (lv_sub hl [1, 2, 0] rfl)
        · have hf := ie hf c9
          exact bX5_handleAsk_76 C hn _ _ _ _ _ hf _ _ _ _ _ (by omega) (by omega) hw (lv_sub hl [1, 2, 0] rfl)
set_option maxRecDepth 100000 in
set_option maxHeartbeats 4000000 in
theorem bX5_handleAsk_40 {D : va_G} {cy : Nat → ClassId} {s0 : Nat} {p : Program} {l : Launch} {e : Env} {s : State} {m : MethodId} {args : Array Value} {below : List Frame} {meth : Method} {c : Code} (C : CX D cy s0 p s m args meth c cX5_handleAsk 5 RX5 none) (hn : meth.name = "handleAsk") : ∀ (x0 : Nat) (x1 : Nat) (x2 : Int32) (h : Hp) (r : Unit × Hp), fX5_handleAsk_40 x0 x1 x2 h = some r → pX5_handleAsk_40 D cy s0 p l e s m args below meth c r x0 x1 x2 h := by
  intro x0 x1 x2 h ⟨rv, rh⟩ hf H locs ls cells slots hc hs hw hl
  unfold fX5_handleAsk_40 at hf
  have hx := C.1
  have hb := C.2.1
  refine lv_iconst (v := (1 : Int32)) hx hb dX5_handleAsk_40 (by decide) ?_
  refine lv_goto (tgt := 45) hx hb dX5_handleAsk_41 (by decide) ?_
  exact bX5_handleAsk_45 C hn _ _ _ _ _ _ hf _ _ _ _ _ (by omega) (by omega) hw (lv_sub hl [0, 1, 2] rfl)
set_option maxRecDepth 100000 in
set_option maxHeartbeats 4000000 in
theorem bX5_handleAsk {D : va_G} {cy : Nat → ClassId} {s0 : Nat} {p : Program} {l : Launch} {e : Env} {s : State} {m : MethodId} {args : Array Value} {below : List Frame} {meth : Method} {c : Code} (C : CX D cy s0 p s m args meth c cX5_handleAsk 5 RX5 none) (hn : meth.name = "handleAsk") : ∀ (x0 : Nat) (x1 : Nat) (h : Hp) (r : Unit × Hp), fX5_handleAsk x0 x1 h = some r → pX5_handleAsk D cy s0 p l e s m args below meth c r x0 x1 h := by
  intro x0 x1 h ⟨rv, rh⟩ hf H locs ls cells slots hc hs hw hl
  unfold fX5_handleAsk at hf
  have hx := C.1
  have hb := C.2.1
  refine lv_aload_n hx hb dX5_handleAsk_0 rfl (lv_at hl 0 rfl) ?_
  obtain ⟨z1, e1, hf⟩ := ob hf
  refine r_gR C hw e1 ck5 rfl (by decide) w189 dX5_handleAsk_1 ?_
  cases z1 with
  | none =>
    have hf := on_n hf
    cases hf
  | some a2 =>
    have hf := on_s hf
    refine W.eq (g2 := F0 m 4 ls [.ref a2]) rfl ?_
    refine lv_aload_n hx hb dX5_handleAsk_4 rfl (lv_at hl 0 rfl) ?_
    obtain ⟨z3, e3, hf⟩ := ob hf
    refine r_gR C hw e3 ck5 rfl (by decide) w189 dX5_handleAsk_5 ?_
    cases z3 with
    | none =>
      have hf := on_n hf
      cases hf
    | some a4 =>
      have hf := on_s hf
      refine W.eq (g2 := F0 m 8 ls [.ref a4, .ref a2]) rfl ?_
      obtain ⟨z5, e5, hf⟩ := ob hf
      refine r_gI C hw e5 ck1 rfl (by decide) w166 dX5_handleAsk_8 ?_
      obtain ⟨kb6, hf⟩ := ig hf
      obtain ⟨z6, h6, e6, hf⟩ := ob2 hf
      refine r_callV C hw (mX1_termAt e6) kXX1_termAt ck1 rfl kb6 w390 w391 w392 ⟨Nat.le_of_ble_eq_true rfl, Nat.le_of_ble_eq_true rfl⟩ rfl hl.1 (rest := []) rfl (Nat.le_of_ble_eq_true rfl) dX5_handleAsk_11 (mc := 0) (ms := 0) rfl rfl ⟨by show _ + 0 ≤ 1; omega, by show _ + 0 ≤ 9; omega⟩ (fun H locs hw => ?_)
      refine W.eq (g2 := F0 m 14 ls [.int z6]) rfl ?_
      refine lv_istore_n (lv' := [(2, .int z6), (0, .ref x0), (1, .ref x1)]) hx hb dX5_handleAsk_14 rfl hl (by decide) rfl (fun ls hl => ?_)
      refine lv_aload_n hx hb dX5_handleAsk_15 rfl (lv_at hl 1 rfl) ?_
      obtain ⟨z7, e7, hf⟩ := ob hf
      refine r_gR C hw e7 ck5 rfl (by decide) w189 dX5_handleAsk_16 ?_
      cases z7 with
      | none =>
        have hf := on_n hf
        cases hf
      | some a8 =>
        have hf := on_s hf
        refine W.eq (g2 := F0 m 19 ls [.ref a8]) rfl ?_
        obtain ⟨z9, e9, hf⟩ := ob hf
        refine r_gI C hw e9 ck1 rfl (by decide) w165 dX5_handleAsk_19 ?_
        refine lv_iconst (v := (-1 : Int32)) hx hb dX5_handleAsk_22 (by decide) ?_
        refine lv_icmp_eq (tgt := 40) hx hb dX5_handleAsk_23 (by decide) (fun c10 => ?_) (fun c10 => ?_)
        · have hf := ip hf c10
          exact bX5_handleAsk_40 C hn _ _ _ _ _ hf _ _ _ _ _ (by omega) (by omega) hw (lv_sub hl [1, 2, 0] rfl)
        · have hf := ie hf c10
          refine lv_aload_n hx hb dX5_handleAsk_26 rfl (lv_at hl 1 rfl) ?_
          obtain ⟨z11, e11, hf⟩ := ob hf
          refine r_gR C hw e11 ck5 rfl (by decide) w189 dX5_handleAsk_27 ?_
          cases z11 with
          | none =>
            have hf := on_n hf
            cases hf
          | some a12 =>
            have hf := on_s hf
            refine W.eq (g2 := F0 m 30 ls [.ref a12]) rfl ?_
            obtain ⟨z13, e13, hf⟩ := ob hf
            refine r_gI C hw e13 ck1 rfl (by decide) w165 dX5_handleAsk_30 ?_
            refine lv_aload_n hx hb dX5_handleAsk_33 rfl (lv_at hl 2 rfl) ?_
            obtain ⟨z14, e14, hf⟩ := ob hf
            refine r_gI C hw e14 ck4 rfl (by decide) w408 dX5_handleAsk_34 ?_
            refine lv_icmp_ne (tgt := 44) hx hb dX5_handleAsk_37 (by decide) (fun c15 => ?_) (fun c15 => ?_)
            · have hf := ie hf c15
              refine lv_iconst (v := (0 : Int32)) hx hb dX5_handleAsk_44 (by decide) ?_
              exact bX5_handleAsk_45 C hn _ _ _ _ _ _ hf _ _ _ _ _ (by omega) (by omega) hw (lv_sub hl [1, 2, 0] rfl)
            · have hf := ip hf c15
              exact bX5_handleAsk_40 C hn _ _ _ _ _ hf _ _ _ _ _ (by omega) (by omega) hw (lv_sub hl [1, 2, 0] rfl)
theorem kXX5_handleAsk : MK yX5_handleAsk cX5_handleAsk 5 none 1 := ⟨w475, w6, by decide +kernel⟩
theorem mX5_handleAsk {D : va_G} {cy : Nat → ClassId} {s0 : Nat} {l : Launch} {x0 : Nat} {x1 : Nat} {h : Hp} {v : Unit} {h1 : Hp} (hf : fX5_handleAsk x0 x1 h = some (v, h1)) : MT D cy s0 l yX5_handleAsk cX5_handleAsk 5 none rX5_handleAsk [.ref x0, .ref x1] h none h1 := by
  refine MT.of (by decide +kernel) (Nat.le_of_ble_eq_true rfl) ?_
  intro p e s m below meth c H locs ls C hn hw hl
  exact bX5_handleAsk C hn _ _ _ _ hf _ _ _ _ _ (Nat.le_of_ble_eq_true rfl) (Nat.le_of_ble_eq_true rfl) hw hl
abbrev rX5_handleDenial : Room := { frames := 3, cells := 2, slots := 13, locals := 80 }
abbrev pX5_handleDenial_54 (D : va_G) (cy : Nat → ClassId) (s0 : Nat) (p : Program) (l : Launch) (e : Env) (s : State) (m : MethodId) (args : Array Value) (below : List Frame) (meth : Method) (c : Code) (r : Unit × Hp) (x0 : Nat) (x1 : Nat) (h : Hp) : Prop := ∀ (H : Heap) (locs : List Loc) (ls : Array Slot) (cells slots : Nat), cells + (2) ≤ 2 → slots + (13) ≤ 13 → WS D cy s0 s h H locs → lv_has ls 2 [(0, .ref x0), (1, .ref x1)] → W p l e rX5_handleDenial s m args below meth c H locs cells slots (MQ below (QQ D cy s0 none r.2) args s 2 13 (fun q => s0 ≤ q)) (F0 m 54 ls [])
abbrev pX5_handleDenial (D : va_G) (cy : Nat → ClassId) (s0 : Nat) (p : Program) (l : Launch) (e : Env) (s : State) (m : MethodId) (args : Array Value) (below : List Frame) (meth : Method) (c : Code) (r : Unit × Hp) (x0 : Nat) (x1 : Nat) (h : Hp) : Prop := ∀ (H : Heap) (locs : List Loc) (ls : Array Slot) (cells slots : Nat), cells + (2) ≤ 2 → slots + (13) ≤ 13 → WS D cy s0 s h H locs → lv_has ls 2 [(0, .ref x0), (1, .ref x1)] → W p l e rX5_handleDenial s m args below meth c H locs cells slots (MQ below (QQ D cy s0 none r.2) args s 2 13 (fun q => s0 ≤ q)) (F0 m 0 ls [])
set_option maxRecDepth 100000 in
set_option maxHeartbeats 4000000 in
theorem bX5_handleDenial_54 {D : va_G} {cy : Nat → ClassId} {s0 : Nat} {p : Program} {l : Launch} {e : Env} {s : State} {m : MethodId} {args : Array Value} {below : List Frame} {meth : Method} {c : Code} (C : CX D cy s0 p s m args meth c cX5_handleDenial 2 RX5 none) (hn : meth.name = "handleDenial") : ∀ (x0 : Nat) (x1 : Nat) (h : Hp) (r : Unit × Hp), fX5_handleDenial_54 x0 x1 h = some r → pX5_handleDenial_54 D cy s0 p l e s m args below meth c r x0 x1 h := by
  intro x0 x1 h ⟨rv, rh⟩ hf H locs ls cells slots hc hs hw hl
  unfold fX5_handleDenial_54 at hf
  have hx := C.1
  have hb := C.2.1
  refine lv_aload_n hx hb dX5_handleDenial_54 rfl (lv_at hl 0 rfl) ?_
  refine lv_aload_n hx hb dX5_handleDenial_55 rfl (lv_at hl 1 rfl) ?_
  obtain ⟨z1, e1, hf⟩ := ob hf
  refine r_gI C hw e1 ck4 rfl (by decide) w408 dX5_handleDenial_56 ?_
  obtain ⟨kb2, hf⟩ := ig hf
  obtain ⟨z2, h2, e2, hf⟩ := ob2 hf
  refine r_callV C hw (mX5_sendTo e2) kXX5_sendTo ck5 rfl kb2 w557 w559 v10 ⟨Nat.le_of_ble_eq_true rfl, Nat.le_of_ble_eq_true rfl⟩ rfl hl.1 (rest := []) rfl (Nat.le_of_ble_eq_true rfl) dX5_handleDenial_59 (mc := 2) (ms := 13) rfl rfl ⟨by show _ + 2 ≤ 2; omega, by show _ + 13 ≤ 13; omega⟩ (fun H locs hw => ?_)
  refine W.eq (g2 := F0 m 62 ls []) rfl ?_
  obtain ⟨rfl, rfl⟩ := sp hf
  exact r_vret C hw rfl (by omega) (by omega) dX5_handleDenial_62
set_option maxRecDepth 100000 in
set_option maxHeartbeats 4000000 in
theorem bX5_handleDenial {D : va_G} {cy : Nat → ClassId} {s0 : Nat} {p : Program} {l : Launch} {e : Env} {s : State} {m : MethodId} {args : Array Value} {below : List Frame} {meth : Method} {c : Code} (C : CX D cy s0 p s m args meth c cX5_handleDenial 2 RX5 none) (hn : meth.name = "handleDenial") : ∀ (x0 : Nat) (x1 : Nat) (h : Hp) (r : Unit × Hp), fX5_handleDenial x0 x1 h = some r → pX5_handleDenial D cy s0 p l e s m args below meth c r x0 x1 h := by
  intro x0 x1 h ⟨rv, rh⟩ hf H locs ls cells slots hc hs hw hl
  unfold fX5_handleDenial at hf
  have hx := C.1
  have hb := C.2.1
  refine lv_aload_n hx hb dX5_handleDenial_0 rfl (lv_at hl 0 rfl) ?_
  obtain ⟨z1, e1, hf⟩ := ob hf
  refine r_gI C hw e1 ck5 rfl (by decide) w197 dX5_handleDenial_1 ?_
  refine lv_iconst (v := (2 : Int32)) hx hb dX5_handleDenial_4 (by decide) ?_
  refine lv_icmp_eq (tgt := 9) hx hb dX5_handleDenial_5 (by decide) (fun c2 => ?_) (fun c2 => ?_)
  · have hf := ip hf c2
    refine lv_aload_n hx hb dX5_handleDenial_9 rfl (lv_at hl 0 rfl) ?_
    obtain ⟨z3, e3, hf⟩ := ob hf
    refine r_gR C hw e3 ck5 rfl (by decide) w207 dX5_handleDenial_10 ?_
    cases z3 with
    | none =>
      have hf := on_n hf
      cases hf
    | some a4 =>
      have hf := on_s hf
      refine W.eq (g2 := F0 m 13 ls [.ref a4]) rfl ?_
      refine lv_aload_n hx hb dX5_handleDenial_13 rfl (lv_at hl 1 rfl) ?_
      obtain ⟨z5, e5, hf⟩ := ob hf
      refine r_gI C hw e5 ck4 rfl (by decide) w408 dX5_handleDenial_14 ?_
      obtain ⟨z6, e6, hf⟩ := ob hf
      refine r_iald C hw e6 dX5_handleDenial_17 ?_
      refine lv_aload_n hx hb dX5_handleDenial_18 rfl (lv_at hl 1 rfl) ?_
      obtain ⟨z7, e7, hf⟩ := ob hf
      refine r_gI C hw e7 ck4 rfl (by decide) w414 dX5_handleDenial_19 ?_
      refine lv_iconst (v := (1 : Int32)) hx hb dX5_handleDenial_22 (by decide) ?_
      refine lv_iadd hx hb dX5_handleDenial_23 ?_
      refine lv_icmp_le (tgt := 54) hx hb dX5_handleDenial_24 (by decide) (fun c8 => ?_) (fun c8 => ?_)
      · have hf := ip hf c8
        exact bX5_handleDenial_54 C hn _ _ _ _ hf _ _ _ _ _ (by omega) (by omega) hw (lv_sub hl [0, 1] rfl)
      · have hf := ie hf c8
        refine lv_aload_n hx hb dX5_handleDenial_27 rfl (lv_at hl 0 rfl) ?_
        obtain ⟨z9, e9, hf⟩ := ob hf
        refine r_gR C hw e9 ck5 rfl (by decide) w207 dX5_handleDenial_28 ?_
        cases z9 with
        | none =>
          have hf := on_n hf
          cases hf
        | some a10 =>
          have hf := on_s hf
          refine W.eq (g2 := F0 m 31 ls [.ref a10]) rfl ?_
          refine lv_aload_n hx hb dX5_handleDenial_31 rfl (lv_at hl 1 rfl) ?_
          obtain ⟨z11, e11, hf⟩ := ob hf
          refine r_gI C hw e11 ck4 rfl (by decide) w408 dX5_handleDenial_32 ?_
          refine lv_aload_n hx hb dX5_handleDenial_35 rfl (lv_at hl 1 rfl) ?_
          obtain ⟨z12, e12, hf⟩ := ob hf
          refine r_gI C hw e12 ck4 rfl (by decide) w414 dX5_handleDenial_36 ?_
          refine lv_aload_n hx hb dX5_handleDenial_39 rfl (lv_at hl 0 rfl) ?_
          obtain ⟨z13, e13, hf⟩ := ob hf
          refine r_gR C hw e13 ck5 rfl (by decide) w208 dX5_handleDenial_40 ?_
          cases z13 with
          | none =>
            have hf := on_n hf
            cases hf
          | some a14 =>
            have hf := on_s hf
            refine W.eq (g2 := F0 m 43 ls [.ref a14, .int z12, .int z11, .ref a10]) rfl ?_
            refine lv_aload_n hx hb dX5_handleDenial_43 rfl (lv_at hl 1 rfl) ?_
            obtain ⟨z15, e15, hf⟩ := ob hf
            refine r_gI C hw e15 ck4 rfl (by decide) w408 dX5_handleDenial_44 ?_
            obtain ⟨z16, e16, hf⟩ := ob hf
            refine r_iald C hw e16 dX5_handleDenial_47 ?_
            refine va_mmax hx hb (by rw [C.2.2.1]; exact hl.1.symm) C.2.2.2.1 (C.2.2.2.2.1 _ w584) (C.2.2.2.2.1 _ w569) (C.2.2.2.2.1 _ w18) (C.2.2.2.2.1 _ w570) (Nat.le_of_ble_eq_true rfl) (Nat.le_of_ble_eq_true rfl) (by show _ ≤ 2; omega) (by show _ ≤ 13; omega) dX5_handleDenial_48 ?_
            refine W.eq (g2 := F0 m 51 ls [.int (mx z12 z16), .int z11, .ref a10]) rfl ?_
            refine lv_iconst (v := (1 : Int32)) hx hb dX5_handleDenial_51 (by decide) ?_
            refine lv_iadd hx hb dX5_handleDenial_52 ?_
            obtain ⟨h17, e17, hf⟩ := ob hf
            refine r_iast C hw e17 dX5_handleDenial_53 (fun H locs hw => ?_)
            exact bX5_handleDenial_54 C hn _ _ _ _ hf _ _ _ _ _ (by omega) (by omega) hw (lv_sub hl [0, 1] rfl)
  · have hf := ie hf c2
    obtain ⟨rfl, rfl⟩ := sp hf
    exact r_vret C hw rfl (by omega) (by omega) dX5_handleDenial_8
theorem kXX5_handleDenial : MK yX5_handleDenial cX5_handleDenial 2 none 1 := ⟨w596, w6, by decide +kernel⟩
theorem mX5_handleDenial {D : va_G} {cy : Nat → ClassId} {s0 : Nat} {l : Launch} {x0 : Nat} {x1 : Nat} {h : Hp} {v : Unit} {h1 : Hp} (hf : fX5_handleDenial x0 x1 h = some (v, h1)) : MT D cy s0 l yX5_handleDenial cX5_handleDenial 2 none rX5_handleDenial [.ref x0, .ref x1] h none h1 := by
  refine MT.of (by decide +kernel) (Nat.le_of_ble_eq_true rfl) ?_
  intro p e s m below meth c H locs ls C hn hw hl
  exact bX5_handleDenial C hn _ _ _ _ hf _ _ _ _ _ (Nat.le_of_ble_eq_true rfl) (Nat.le_of_ble_eq_true rfl) hw hl
abbrev rX5_handleSnapshot : Room := { frames := 3, cells := 1, slots := 9, locals := 73 }
abbrev pX5_handleSnapshot (D : va_G) (cy : Nat → ClassId) (s0 : Nat) (p : Program) (l : Launch) (e : Env) (s : State) (m : MethodId) (args : Array Value) (below : List Frame) (meth : Method) (c : Code) (r : Unit × Hp) (x0 : Nat) (x1 : Nat) (h : Hp) : Prop := ∀ (H : Heap) (locs : List Loc) (ls : Array Slot) (cells slots : Nat), cells + (1) ≤ 1 → slots + (9) ≤ 9 → WS D cy s0 s h H locs → lv_has ls 3 [(0, .ref x0), (1, .ref x1)] → W p l e rX5_handleSnapshot s m args below meth c H locs cells slots (MQ below (QQ D cy s0 none r.2) args s 1 9 (fun q => s0 ≤ q)) (F0 m 0 ls [])
set_option maxRecDepth 100000 in
set_option maxHeartbeats 4000000 in
theorem bX5_handleSnapshot {D : va_G} {cy : Nat → ClassId} {s0 : Nat} {p : Program} {l : Launch} {e : Env} {s : State} {m : MethodId} {args : Array Value} {below : List Frame} {meth : Method} {c : Code} (C : CX D cy s0 p s m args meth c cX5_handleSnapshot 3 RX5 none) (hn : meth.name = "handleSnapshot") : ∀ (x0 : Nat) (x1 : Nat) (h : Hp) (r : Unit × Hp), fX5_handleSnapshot x0 x1 h = some r → pX5_handleSnapshot D cy s0 p l e s m args below meth c r x0 x1 h := by
  intro x0 x1 h ⟨rv, rh⟩ hf H locs ls cells slots hc hs hw hl
  unfold fX5_handleSnapshot at hf
  have hx := C.1
  have hb := C.2.1
  refine lv_aload_n hx hb dX5_handleSnapshot_0 rfl (lv_at hl 0 rfl) ?_
  refine lv_iconst (v := (0 : Int32)) hx hb dX5_handleSnapshot_1 (by decide) ?_
  obtain ⟨h1, e1, hf⟩ := ob hf
  refine r_pI C hw e1 ck5 rfl (by decide) rfl w197 (Or.inl rfl) dX5_handleSnapshot_2 (fun H locs hw => ?_)
  refine lv_aload_n hx hb dX5_handleSnapshot_5 rfl (lv_at hl 1 rfl) ?_
  obtain ⟨z2, e2, hf⟩ := ob hf
  refine r_gR C hw e2 ck4 rfl (by decide) w421 dX5_handleSnapshot_6 ?_
  cases z2 with
  | none =>
    have hf := on_n hf
    refine W.eq (g2 := F0 m 9 ls [.null]) rfl ?_
    refine lv_astore_nN (lv' := [(2, .null), (0, .ref x0), (1, .ref x1)]) hx hb dX5_handleSnapshot_9 rfl hl (by decide) rfl (fun ls hl => ?_)
    refine lv_aload_nN hx hb dX5_handleSnapshot_10 rfl (lv_at hl 0 rfl) ?_
    refine lv_ifnonnullN hx hb dX5_handleSnapshot_11 ?_
    obtain ⟨rfl, rfl⟩ := sp hf
    exact r_vret C hw rfl (by omega) (by omega) dX5_handleSnapshot_14
  | some a3 =>
    have hf := on_s hf
    refine W.eq (g2 := F0 m 9 ls [.ref a3]) rfl ?_
    refine lv_astore_n (lv' := [(2, .ref a3), (0, .ref x0), (1, .ref x1)]) hx hb dX5_handleSnapshot_9 rfl hl (by decide) rfl (fun ls hl => ?_)
    refine lv_aload_n hx hb dX5_handleSnapshot_10 rfl (lv_at hl 0 rfl) ?_
    refine lv_ifnonnull (tgt := 15) hx hb dX5_handleSnapshot_11 (by decide) ?_
    refine lv_aload_n hx hb dX5_handleSnapshot_15 rfl (lv_at hl 1 rfl) ?_
    obtain ⟨z4, e4, hf⟩ := ob hf
    refine r_gI C hw e4 ck5 rfl (by decide) w200 dX5_handleSnapshot_16 ?_
    refine lv_aload_n hx hb dX5_handleSnapshot_19 rfl (lv_at hl 0 rfl) ?_
    obtain ⟨z5, e5, hf⟩ := ob hf
    refine r_gI C hw e5 ck6 rfl (by decide) w135 dX5_handleSnapshot_20 ?_
    refine lv_icmp_lt (tgt := 37) hx hb dX5_handleSnapshot_23 (by decide) (fun c6 => ?_) (fun c6 => ?_)
    · have hf := ip hf c6
      refine lv_aload_n hx hb dX5_handleSnapshot_37 rfl (lv_at hl 1 rfl) ?_
      refine lv_aload_n hx hb dX5_handleSnapshot_38 rfl (lv_at hl 1 rfl) ?_
      obtain ⟨z7, e7, hf⟩ := ob hf
      refine r_gR C hw e7 ck5 rfl (by decide) w189 dX5_handleSnapshot_39 ?_
      cases z7 with
      | none =>
        have hf := on_n hf
        cases hf
      | some a8 =>
        have hf := on_s hf
        refine W.eq (g2 := F0 m 42 ls [.ref a8, .ref x0]) rfl ?_
        refine lv_aload_n hx hb dX5_handleSnapshot_42 rfl (lv_at hl 0 rfl) ?_
        obtain ⟨kb9, hf⟩ := ig hf
        obtain ⟨z9, h9, e9, hf⟩ := ob2 hf
        refine r_callV C hw (mX1_recordSnapshot e9) kXX1_recordSnapshot ck1 rfl kb9 w601 w602 w603 ⟨Nat.le_of_ble_eq_true rfl, Nat.le_of_ble_eq_true rfl⟩ rfl hl.1 (rest := [.ref x0]) rfl (Nat.le_of_ble_eq_true rfl) dX5_handleSnapshot_43 (mc := 0) (ms := 0) rfl rfl ⟨by show _ + 0 ≤ 1; omega, by show _ + 0 ≤ 9; omega⟩ (fun H locs hw => ?_)
        refine W.eq (g2 := F0 m 46 ls [.int z9, .ref x0]) rfl ?_
        obtain ⟨kb10, hf⟩ := ig hf
        obtain ⟨z10, h10, e10, hf⟩ := ob2 hf
        refine r_callV C hw (mX5_survives e10) kXX5_survives ck5 rfl kb10 w382 w384 v3 ⟨Nat.le_of_ble_eq_true rfl, Nat.le_of_ble_eq_true rfl⟩ rfl hl.1 (rest := []) rfl (Nat.le_of_ble_eq_true rfl) dX5_handleSnapshot_46 (mc := 0) (ms := 0) rfl rfl ⟨by show _ + 0 ≤ 1; omega, by show _ + 0 ≤ 9; omega⟩ (fun H locs hw => ?_)
        refine W.eq (g2 := F0 m 49 ls [.int z10]) rfl ?_
        refine lv_if_ne (tgt := 53) hx hb dX5_handleSnapshot_49 (by decide) (fun c11 => ?_) (fun c11 => ?_)
        · have hf := ie hf c11
          refine lv_aload_n hx hb dX5_handleSnapshot_53 rfl (lv_at hl 1 rfl) ?_
          obtain ⟨kb12, hf⟩ := ig hf
          obtain ⟨z12, h12, e12, hf⟩ := ob2 hf
          refine r_callV C hw (mX5_loadSnapshot e12) kXX5_loadSnapshot ck5 rfl kb12 w606 w608 v17 ⟨Nat.le_of_ble_eq_true rfl, Nat.le_of_ble_eq_true rfl⟩ rfl hl.1 (rest := []) rfl (Nat.le_of_ble_eq_true rfl) dX5_handleSnapshot_54 (mc := 0) (ms := 0) rfl rfl ⟨by show _ + 0 ≤ 1; omega, by show _ + 0 ≤ 9; omega⟩ (fun H locs hw => ?_)
          refine W.eq (g2 := F0 m 57 ls []) rfl ?_
          refine lv_aload_n hx hb dX5_handleSnapshot_57 rfl (lv_at hl 1 rfl) ?_
          refine lv_aload_n hx hb dX5_handleSnapshot_58 rfl (lv_at hl 2 rfl) ?_
          refine lv_iconst (v := (3 : Int32)) hx hb dX5_handleSnapshot_59 (by decide) ?_
          refine lv_aload_n hx hb dX5_handleSnapshot_60 rfl (lv_at hl 0 rfl) ?_
          obtain ⟨z13, e13, hf⟩ := ob hf
          refine r_gI C hw e13 ck6 rfl (by decide) w135 dX5_handleSnapshot_61 ?_
          obtain ⟨kb14, hf⟩ := ig hf
          obtain ⟨z14, h14, e14, hf⟩ := ob2 hf
          refine r_callV C hw (mX5_reply e14) kXX5_reply ck5 rfl kb14 w468 w470 v6 ⟨Nat.le_of_ble_eq_true rfl, Nat.le_of_ble_eq_true rfl⟩ rfl hl.1 (rest := []) rfl (Nat.le_of_ble_eq_true rfl) dX5_handleSnapshot_64 (mc := 1) (ms := 9) rfl rfl ⟨by show _ + 1 ≤ 1; omega, by show _ + 9 ≤ 9; omega⟩ (fun H locs hw => ?_)
          refine W.eq (g2 := F0 m 67 ls []) rfl ?_
          obtain ⟨rfl, rfl⟩ := sp hf
          exact r_vret C hw rfl (by omega) (by omega) dX5_handleSnapshot_67
        · have hf := ip hf c11
          obtain ⟨rfl, rfl⟩ := sp hf
          exact r_vret C hw rfl (by omega) (by omega) dX5_handleSnapshot_52
    · have hf := ie hf c6
      refine lv_aload_n hx hb dX5_handleSnapshot_26 rfl (lv_at hl 1 rfl) ?_
      refine lv_aload_n hx hb dX5_handleSnapshot_27 rfl (lv_at hl 2 rfl) ?_
      refine lv_iconst (v := (3 : Int32)) hx hb dX5_handleSnapshot_28 (by decide) ?_
      refine lv_aload_n hx hb dX5_handleSnapshot_29 rfl (lv_at hl 1 rfl) ?_
      obtain ⟨z16, e16, hf⟩ := ob hf
      refine r_gI C hw e16 ck5 rfl (by decide) w200 dX5_handleSnapshot_30 ?_
      obtain ⟨kb17, hf⟩ := ig hf
      obtain ⟨z17, h17, e17, hf⟩ := ob2 hf
      refine r_callV C hw (mX5_reply e17) kXX5_reply ck5 rfl kb17 w468 w470 v6 ⟨Nat.le_of_ble_eq_true rfl, Nat.le_of_ble_eq_true rfl⟩ rfl hl.1 (rest := []) rfl (Nat.le_of_ble_eq_true rfl) dX5_handleSnapshot_33 (mc := 1) (ms := 9) rfl rfl ⟨by show _ + 1 ≤ 1; omega, by show _ + 9 ≤ 9; omega⟩ (fun H locs hw => ?_)
      refine W.eq (g2 := F0 m 36 ls []) rfl ?_
      obtain ⟨rfl, rfl⟩ := sp hf
      exact r_vret C hw rfl (by omega) (by omega) dX5_handleSnapshot_36
theorem kXX5_handleSnapshot : MK yX5_handleSnapshot cX5_handleSnapshot 3 none 1 := ⟨w600, w6, by decide +kernel⟩
theorem mX5_handleSnapshot {D : va_G} {cy : Nat → ClassId} {s0 : Nat} {l : Launch} {x0 : Nat} {x1 : Nat} {h : Hp} {v : Unit} {h1 : Hp} (hf : fX5_handleSnapshot x0 x1 h = some (v, h1)) : MT D cy s0 l yX5_handleSnapshot cX5_handleSnapshot 3 none rX5_handleSnapshot [.ref x0, .ref x1] h none h1 := by
  refine MT.of (by decide +kernel) (Nat.le_of_ble_eq_true rfl) ?_
  intro p e s m below meth c H locs ls C hn hw hl
  exact bX5_handleSnapshot C hn _ _ _ _ hf _ _ _ _ _ (Nat.le_of_ble_eq_true rfl) (Nat.le_of_ble_eq_true rfl) hw hl
