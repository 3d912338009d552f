abbrev rL_beat : Room := { frames := 8, cells := 20, slots := 129, locals := 136 }
abbrev hhL_beat : List (Nat × Nat × Nat × Nat) := [(0, 9, 12, 13), (0, 9, 15, 15)]
theorem w770 : Cond.codeWith yL_beat cL_beat 4 (some .int) hhL_beat ∈ GW := gw_t (List.mem_of_getElem? (i := 770) (by decide +kernel)) (by decide +kernel)
set_option maxRecDepth 100000 in
set_option maxHeartbeats 4000000 in
theorem mL_beat {D : va_G} {cy : Nat → ClassId} {s0 : Nat} {l : Launch} {x0 : Nat} {x1 : Int32} {x2 : Nat} {h : Hp} {v : Int32} {h1 : Hp} (hst : l.stackTraces = false) (hf : fL_beat x0 x1 x2 h = some (v, h1)) : WT D cy s0 l yL_beat cL_beat 4 (some .int) hhL_beat rL_beat [.ref x0, .int x1, .ref x2] h (some (.int v)) h1 := by
  refine WT.of (by decide +kernel) (Nat.le_of_ble_eq_true rfl) ?_
  intro p e s m below meth c H locs ls C hT hE hw hl
  have hx := C.1
  have hb := C.2.1
  unfold fL_beat at hf
  have hcc : (0 : Nat) ≤ 0 := Nat.le_refl 0
  obtain ⟨kb, hf⟩ := ig hf
  refine lv_aload_n hx hb dL_beat_0 rfl (lv_at hl 2 rfl) ?_
  refine lv_iconst (v := (0 : Int32)) hx hb dL_beat_1 (by decide) ?_
  refine lv_aload_n hx hb dL_beat_2 rfl (lv_at hl 0 rfl) ?_
  refine lv_iload_n hx hb dL_beat_3 rfl (lv_at hl 1 rfl) ?_
  rcases obc hf with ⟨z1, h1, e1, hf⟩ | ⟨k1, h1, e1, hf⟩
  · refine x_ret (v := (some (.int z1))) rfl hw (x_runV C hT hw (mX9_beat hst e1) kXX9_beat ck9 rfl kb w771 w772 w773 ⟨Nat.le_of_ble_eq_true rfl, Nat.le_of_ble_eq_true rfl⟩ rfl hl.1 (rest := [.int (0 : Int32), .ref x2]) rfl (Nat.le_of_ble_eq_true rfl) dL_beat_4 (mc := 20) (ms := 129) rfl rfl ⟨by show _ + 20 ≤ 20; omega, by show _ + 129 ≤ 129; omega⟩) (fun H locs hw => ?_)
    refine W.eq (g2 := F0 m 7 ls [.int z1, .int (0 : Int32), .ref x2]) rfl ?_
    refine lv_i2l (v := (z1.toInt64)) hx hb dL_beat_7 rfl ?_
    obtain ⟨h2, e2, hf⟩ := ob hf
    refine r_last C hw e2 dL_beat_8 (fun H locs hw => ?_)
    refine lv_goto (tgt := 18) hx hb dL_beat_9 (by decide) ?_
    refine lv_iconst (v := (0 : Int32)) hx hb dL_beat_18 (by decide) ?_
    obtain ⟨rfl, rfl⟩ := sp hf
    exact z_iret C (Nat.le_refl _) hw rfl rfl (by show _ ≤ 20; omega) (by show _ ≤ 129; omega) dL_beat_19
  · by_cases c0 : k1 = 0
    · have hf := ip hf c0
      obtain ⟨rfl, rfl⟩ := sp hf
      subst c0
      refine x_back hw (x_runV C hT hw (mX9_beat hst e1) kXX9_beat ck9 rfl kb w771 w772 w773 ⟨Nat.le_of_ble_eq_true rfl, Nat.le_of_ble_eq_true rfl⟩ rfl hl.1 (rest := [.int (0 : Int32), .ref x2]) rfl (Nat.le_of_ble_eq_true rfl) dL_beat_4 (mc := 20) (ms := 129) rfl rfl ⟨by show _ + 20 ≤ 20; omega, by show _ + 129 ≤ 129; omega⟩) (fun v2 hv2 => inr_inl hv2) (fun k2 hk2 H locs q9 ce z hz hw g1 g2 g3 => ?_)
      obtain rfl := inr_inr hk2
      refine vx_catch C.2.2.2.1 [] (⟨0, 9, 12, 13⟩ : ExceptionTableEntry) [(⟨0, 9, 15, 15⟩ : ExceptionTableEntry)] (hE.trans rfl) (fun _ h9 => absurd h9 List.not_mem_nil) rfl (by decide) (C.2.2.2.2.1 _ w275) ((hT.2.2.2.1 (Cond.castable (ename 0) "java/lang/IndexOutOfBoundsException") (by decide)).use rfl) g1 g2 g3 ?_
      refine lv_astore_n (lv' := [(3, .ref q9), (0, .ref x0), (1, .int x1), (2, .ref x2)]) hx hb dL_beat_12 rfl hl (by decide) rfl (fun ls hl => ?_)
      refine lv_iconst (v := (1 : Int32)) hx hb dL_beat_13 (by decide) ?_
      exact z_iret C hz hw rfl rfl (by show _ ≤ 20; omega) (by show _ ≤ 129; omega) dL_beat_14
    · have hf := ie hf c0
      by_cases c1 : k1 = 1
      · have hf := ip hf c1
        obtain ⟨rfl, rfl⟩ := sp hf
        subst c1
        refine x_back hw (x_runV C hT hw (mX9_beat hst e1) kXX9_beat ck9 rfl kb w771 w772 w773 ⟨Nat.le_of_ble_eq_true rfl, Nat.le_of_ble_eq_true rfl⟩ rfl hl.1 (rest := [.int (0 : Int32), .ref x2]) rfl (Nat.le_of_ble_eq_true rfl) dL_beat_4 (mc := 20) (ms := 129) rfl rfl ⟨by show _ + 20 ≤ 20; omega, by show _ + 129 ≤ 129; omega⟩) (fun v2 hv2 => inr_inl hv2) (fun k2 hk2 H locs q9 ce z hz hw g1 g2 g3 => ?_)
        obtain rfl := inr_inr hk2
        refine vx_catch C.2.2.2.1 [(⟨0, 9, 12, 13⟩ : ExceptionTableEntry)] (⟨0, 9, 15, 15⟩ : ExceptionTableEntry) [] (hE.trans rfl) (List.forall_mem_cons.mpr ⟨Or.inr ⟨by decide, _, C.2.2.2.2.1 _ w275, hT.2.2.2.2 (ename 1, "java/lang/IndexOutOfBoundsException") (by decide)⟩, fun _ h9 => absurd h9 List.not_mem_nil⟩) rfl (by decide) (C.2.2.2.2.1 _ w276) ((hT.2.2.2.1 (Cond.castable (ename 1) "java/lang/IllegalStateException") (by decide)).use rfl) g1 g2 g3 ?_
        refine lv_astore_n (lv' := [(3, .ref q9), (0, .ref x0), (1, .int x1), (2, .ref x2)]) hx hb dL_beat_15 rfl hl (by decide) rfl (fun ls hl => ?_)
        refine lv_iconst (v := (2 : Int32)) hx hb dL_beat_16 (by decide) ?_
        exact z_iret C hz hw rfl rfl (by show _ ≤ 20; omega) (by show _ ≤ 129; omega) dL_beat_17
      · have hf := ie hf c1
        cases hf
abbrev rL_crash : Room := { frames := 8, cells := 2, slots := 12, locals := 135 }
abbrev hhL_crash : List (Nat × Nat × Nat × Nat) := [(0, 5, 8, 13), (0, 5, 11, 15)]
theorem w796 : Cond.codeWith yL_crash cL_crash 3 (some .int) hhL_crash ∈ GW := gw_t (List.mem_of_getElem? (i := 796) (by decide +kernel)) (by decide +kernel)
set_option maxRecDepth 100000 in
set_option maxHeartbeats 4000000 in
theorem mL_crash {D : va_G} {cy : Nat → ClassId} {s0 : Nat} {l : Launch} {x0 : Nat} {x1 : Int32} {h : Hp} {v : Int32} {h1 : Hp} (hst : l.stackTraces = false) (hf : fL_crash x0 x1 h = some (v, h1)) : WT D cy s0 l yL_crash cL_crash 3 (some .int) hhL_crash rL_crash [.ref x0, .int x1] h (some (.int v)) h1 := by
  refine WT.of (by decide +kernel) (Nat.le_of_ble_eq_true rfl) ?_
  intro p e s m below meth c H locs ls C hT hE hw hl
  have hx := C.1
  have hb := C.2.1
  unfold fL_crash at hf
  have hcc : (0 : Nat) ≤ 0 := Nat.le_refl 0
  obtain ⟨kb, hf⟩ := ig hf
  refine lv_aload_n hx hb dL_crash_0 rfl (lv_at hl 0 rfl) ?_
  refine lv_iload_n hx hb dL_crash_1 rfl (lv_at hl 1 rfl) ?_
  rcases obc hf with ⟨z1, h1, e1, hf⟩ | ⟨k1, h1, e1, hf⟩
  · refine x_ret (v := none) rfl hw (x_runV C hT hw (mX9_crash hst e1) kXX9_crash ck9 rfl kb w797 w798 w799 ⟨Nat.le_of_ble_eq_true rfl, Nat.le_of_ble_eq_true rfl⟩ rfl hl.1 (rest := []) rfl (Nat.le_of_ble_eq_true rfl) dL_crash_2 (mc := 2) (ms := 12) rfl rfl ⟨by show _ + 2 ≤ 2; omega, by show _ + 12 ≤ 12; omega⟩) (fun H locs hw => ?_)
    refine W.eq (g2 := F0 m 5 ls []) rfl ?_
    refine lv_goto (tgt := 14) hx hb dL_crash_5 (by decide) ?_
    refine lv_iconst (v := (0 : Int32)) hx hb dL_crash_14 (by decide) ?_
    obtain ⟨rfl, rfl⟩ := sp hf
    exact z_iret C (Nat.le_refl _) hw rfl rfl (by show _ ≤ 2; omega) (by show _ ≤ 12; omega) dL_crash_15
  · by_cases c0 : k1 = 0
    · have hf := ip hf c0
      obtain ⟨rfl, rfl⟩ := sp hf
      subst c0
      refine x_back hw (x_runV C hT hw (mX9_crash hst e1) kXX9_crash ck9 rfl kb w797 w798 w799 ⟨Nat.le_of_ble_eq_true rfl, Nat.le_of_ble_eq_true rfl⟩ rfl hl.1 (rest := []) rfl (Nat.le_of_ble_eq_true rfl) dL_crash_2 (mc := 2) (ms := 12) rfl rfl ⟨by show _ + 2 ≤ 2; omega, by show _ + 12 ≤ 12; omega⟩) (fun v2 hv2 => inr_inl hv2) (fun k2 hk2 H locs q9 ce z hz hw g1 g2 g3 => ?_)
      obtain rfl := inr_inr hk2
      refine vx_catch C.2.2.2.1 [] (⟨0, 5, 8, 13⟩ : ExceptionTableEntry) [(⟨0, 5, 11, 15⟩ : ExceptionTableEntry)] (hE.trans rfl) (fun _ h9 => absurd h9 List.not_mem_nil) rfl (by decide) (C.2.2.2.2.1 _ w275) ((hT.2.2.2.1 (Cond.castable (ename 0) "java/lang/IndexOutOfBoundsException") (by decide)).use rfl) g1 g2 g3 ?_
      refine lv_astore_n (lv' := [(2, .ref q9), (0, .ref x0), (1, .int x1)]) hx hb dL_crash_8 rfl hl (by decide) rfl (fun ls hl => ?_)
      refine lv_iconst (v := (1 : Int32)) hx hb dL_crash_9 (by decide) ?_
      exact z_iret C hz hw rfl rfl (by show _ ≤ 2; omega) (by show _ ≤ 12; omega) dL_crash_10
    · have hf := ie hf c0
      by_cases c1 : k1 = 1
      · have hf := ip hf c1
        obtain ⟨rfl, rfl⟩ := sp hf
        subst c1
        refine x_back hw (x_runV C hT hw (mX9_crash hst e1) kXX9_crash ck9 rfl kb w797 w798 w799 ⟨Nat.le_of_ble_eq_true rfl, Nat.le_of_ble_eq_true rfl⟩ rfl hl.1 (rest := []) rfl (Nat.le_of_ble_eq_true rfl) dL_crash_2 (mc := 2) (ms := 12) rfl rfl ⟨by show _ + 2 ≤ 2; omega, by show _ + 12 ≤ 12; omega⟩) (fun v2 hv2 => inr_inl hv2) (fun k2 hk2 H locs q9 ce z hz hw g1 g2 g3 => ?_)
        obtain rfl := inr_inr hk2
        refine vx_catch C.2.2.2.1 [(⟨0, 5, 8, 13⟩ : ExceptionTableEntry)] (⟨0, 5, 11, 15⟩ : ExceptionTableEntry) [] (hE.trans rfl) (List.forall_mem_cons.mpr ⟨Or.inr ⟨by decide, _, C.2.2.2.2.1 _ w275, hT.2.2.2.2 (ename 1, "java/lang/IndexOutOfBoundsException") (by decide)⟩, fun _ h9 => absurd h9 List.not_mem_nil⟩) rfl (by decide) (C.2.2.2.2.1 _ w276) ((hT.2.2.2.1 (Cond.castable (ename 1) "java/lang/IllegalStateException") (by decide)).use rfl) g1 g2 g3 ?_
        refine lv_astore_n (lv' := [(2, .ref q9), (0, .ref x0), (1, .int x1)]) hx hb dL_crash_11 rfl hl (by decide) rfl (fun ls hl => ?_)
        refine lv_iconst (v := (2 : Int32)) hx hb dL_crash_12 (by decide) ?_
        exact z_iret C hz hw rfl rfl (by show _ ≤ 2; omega) (by show _ ≤ 12; omega) dL_crash_13
      · have hf := ie hf c1
        cases hf
abbrev rL_deliver : Room := { frames := 8, cells := 22, slots := 138, locals := 188 }
abbrev hhL_deliver : List (Nat × Nat × Nat × Nat) := [(0, 9, 12, 13)]
theorem w447 : Cond.codeWith yL_deliver cL_deliver 4 (some .int) hhL_deliver ∈ GW := gw_t (List.mem_of_getElem? (i := 447) (by decide +kernel)) (by decide +kernel)
set_option maxRecDepth 100000 in
set_option maxHeartbeats 4000000 in
theorem mL_deliver {D : va_G} {cy : Nat → ClassId} {s0 : Nat} {l : Launch} {x0 : Nat} {x1 : Int32} {x2 : Nat} {h : Hp} {v : Int32} {h1 : Hp} (hst : l.stackTraces = false) (hf : fL_deliver x0 x1 x2 h = some (v, h1)) : WT D cy s0 l yL_deliver cL_deliver 4 (some .int) hhL_deliver rL_deliver [.ref x0, .int x1, .ref x2] h (some (.int v)) h1 := by
  refine WT.of (by decide +kernel) (Nat.le_of_ble_eq_true rfl) ?_
  intro p e s m below meth c H locs ls C hT hE hw hl
  have hx := C.1
  have hb := C.2.1
  unfold fL_deliver at hf
  have hcc : (0 : Nat) ≤ 0 := Nat.le_refl 0
  obtain ⟨kb, hf⟩ := ig hf
  refine lv_aload_n hx hb dL_deliver_0 rfl (lv_at hl 2 rfl) ?_
  refine lv_iconst (v := (0 : Int32)) hx hb dL_deliver_1 (by decide) ?_
  refine lv_aload_n hx hb dL_deliver_2 rfl (lv_at hl 0 rfl) ?_
  refine lv_iload_n hx hb dL_deliver_3 rfl (lv_at hl 1 rfl) ?_
  rcases obc hf with ⟨z1, h1, e1, hf⟩ | ⟨k1, h1, e1, hf⟩
  · refine x_ret (v := (some (.int z1))) rfl hw (x_runV C hT hw (mX9_deliver hst e1) kXX9_deliver ck9 rfl kb w448 w449 w450 ⟨Nat.le_of_ble_eq_true rfl, Nat.le_of_ble_eq_true rfl⟩ rfl hl.1 (rest := [.int (0 : Int32), .ref x2]) rfl (Nat.le_of_ble_eq_true rfl) dL_deliver_4 (mc := 22) (ms := 138) rfl rfl ⟨by show _ + 22 ≤ 22; omega, by show _ + 138 ≤ 138; omega⟩) (fun H locs hw => ?_)
    refine W.eq (g2 := F0 m 7 ls [.int z1, .int (0 : Int32), .ref x2]) rfl ?_
    refine lv_i2l (v := (z1.toInt64)) hx hb dL_deliver_7 rfl ?_
    obtain ⟨h2, e2, hf⟩ := ob hf
    refine r_last C hw e2 dL_deliver_8 (fun H locs hw => ?_)
    refine lv_goto (tgt := 15) hx hb dL_deliver_9 (by decide) ?_
    refine lv_iconst (v := (0 : Int32)) hx hb dL_deliver_15 (by decide) ?_
    obtain ⟨rfl, rfl⟩ := sp hf
    exact z_iret C (Nat.le_refl _) hw rfl rfl (by show _ ≤ 22; omega) (by show _ ≤ 138; omega) dL_deliver_16
  · by_cases c0 : k1 = 0
    · have hf := ip hf c0
      obtain ⟨rfl, rfl⟩ := sp hf
      subst c0
      refine x_back hw (x_runV C hT hw (mX9_deliver hst e1) kXX9_deliver ck9 rfl kb w448 w449 w450 ⟨Nat.le_of_ble_eq_true rfl, Nat.le_of_ble_eq_true rfl⟩ rfl hl.1 (rest := [.int (0 : Int32), .ref x2]) rfl (Nat.le_of_ble_eq_true rfl) dL_deliver_4 (mc := 22) (ms := 138) rfl rfl ⟨by show _ + 22 ≤ 22; omega, by show _ + 138 ≤ 138; omega⟩) (fun v2 hv2 => inr_inl hv2) (fun k2 hk2 H locs q9 ce z hz hw g1 g2 g3 => ?_)
      obtain rfl := inr_inr hk2
      refine vx_catch C.2.2.2.1 [] (⟨0, 9, 12, 13⟩ : ExceptionTableEntry) [] (hE.trans rfl) (fun _ h9 => absurd h9 List.not_mem_nil) rfl (by decide) (C.2.2.2.2.1 _ w275) ((hT.2.2.2.1 (Cond.castable (ename 0) "java/lang/IndexOutOfBoundsException") (by decide)).use rfl) g1 g2 g3 ?_
      refine lv_astore_n (lv' := [(3, .ref q9), (0, .ref x0), (1, .int x1), (2, .ref x2)]) hx hb dL_deliver_12 rfl hl (by decide) rfl (fun ls hl => ?_)
      refine lv_iconst (v := (1 : Int32)) hx hb dL_deliver_13 (by decide) ?_
      exact z_iret C hz hw rfl rfl (by show _ ≤ 22; omega) (by show _ ≤ 138; omega) dL_deliver_14
    · have hf := ie hf c0
      cases hf
abbrev rL_digest : Room := { frames := 8, cells := 2, slots := 12, locals := 135 }
abbrev hhL_digest : List (Nat × Nat × Nat × Nat) := [(0, 8, 11, 13), (0, 8, 14, 15)]
theorem w943 : Cond.codeWith yL_digest cL_digest 4 (some .int) hhL_digest ∈ GW := gw_t (List.mem_of_getElem? (i := 943) (by decide +kernel)) (by decide +kernel)
set_option maxRecDepth 100000 in
set_option maxHeartbeats 4000000 in
theorem mL_digest {D : va_G} {cy : Nat → ClassId} {s0 : Nat} {l : Launch} {x0 : Nat} {x1 : Int32} {x2 : Nat} {h : Hp} {v : Int32} {h1 : Hp} (hst : l.stackTraces = false) (hf : fL_digest x0 x1 x2 h = some (v, h1)) : WT D cy s0 l yL_digest cL_digest 4 (some .int) hhL_digest rL_digest [.ref x0, .int x1, .ref x2] h (some (.int v)) h1 := by
  refine WT.of (by decide +kernel) (Nat.le_of_ble_eq_true rfl) ?_
  intro p e s m below meth c H locs ls C hT hE hw hl
  have hx := C.1
  have hb := C.2.1
  unfold fL_digest at hf
  have hcc : (0 : Nat) ≤ 0 := Nat.le_refl 0
  obtain ⟨kb, hf⟩ := ig hf
  refine lv_aload_n hx hb dL_digest_0 rfl (lv_at hl 2 rfl) ?_
  refine lv_iconst (v := (0 : Int32)) hx hb dL_digest_1 (by decide) ?_
  refine lv_aload_n hx hb dL_digest_2 rfl (lv_at hl 0 rfl) ?_
  refine lv_iload_n hx hb dL_digest_3 rfl (lv_at hl 1 rfl) ?_
  rcases obc hf with ⟨z1, h1, e1, hf⟩ | ⟨k1, h1, e1, hf⟩
  · refine x_ret (v := (some (.long z1))) rfl hw (x_runV C hT hw (mX9_digest hst e1) kXX9_digest ck9 rfl kb w944 w945 w946 ⟨Nat.le_of_ble_eq_true rfl, Nat.le_of_ble_eq_true rfl⟩ rfl hl.1 (rest := [.int (0 : Int32), .ref x2]) rfl (Nat.le_of_ble_eq_true rfl) dL_digest_4 (mc := 2) (ms := 12) rfl rfl ⟨by show _ + 2 ≤ 2; omega, by show _ + 12 ≤ 12; omega⟩) (fun H locs hw => ?_)
    refine W.eq (g2 := F0 m 7 ls [.long z1, .int (0 : Int32), .ref x2]) rfl ?_
    obtain ⟨h2, e2, hf⟩ := ob hf
    refine r_last C hw e2 dL_digest_7 (fun H locs hw => ?_)
    refine lv_goto (tgt := 17) hx hb dL_digest_8 (by decide) ?_
    refine lv_iconst (v := (0 : Int32)) hx hb dL_digest_17 (by decide) ?_
    obtain ⟨rfl, rfl⟩ := sp hf
    exact z_iret C (Nat.le_refl _) hw rfl rfl (by show _ ≤ 2; omega) (by show _ ≤ 12; omega) dL_digest_18
  · by_cases c0 : k1 = 0
    · have hf := ip hf c0
      obtain ⟨rfl, rfl⟩ := sp hf
      subst c0
      refine x_back hw (x_runV C hT hw (mX9_digest hst e1) kXX9_digest ck9 rfl kb w944 w945 w946 ⟨Nat.le_of_ble_eq_true rfl, Nat.le_of_ble_eq_true rfl⟩ rfl hl.1 (rest := [.int (0 : Int32), .ref x2]) rfl (Nat.le_of_ble_eq_true rfl) dL_digest_4 (mc := 2) (ms := 12) rfl rfl ⟨by show _ + 2 ≤ 2; omega, by show _ + 12 ≤ 12; omega⟩) (fun v2 hv2 => inr_inl hv2) (fun k2 hk2 H locs q9 ce z hz hw g1 g2 g3 => ?_)
      obtain rfl := inr_inr hk2
      refine vx_catch C.2.2.2.1 [] (⟨0, 8, 11, 13⟩ : ExceptionTableEntry) [(⟨0, 8, 14, 15⟩ : ExceptionTableEntry)] (hE.trans rfl) (fun _ h9 => absurd h9 List.not_mem_nil) rfl (by decide) (C.2.2.2.2.1 _ w275) ((hT.2.2.2.1 (Cond.castable (ename 0) "java/lang/IndexOutOfBoundsException") (by decide)).use rfl) g1 g2 g3 ?_
      refine lv_astore_n (lv' := [(3, .ref q9), (0, .ref x0), (1, .int x1), (2, .ref x2)]) hx hb dL_digest_11 rfl hl (by decide) rfl (fun ls hl => ?_)
      refine lv_iconst (v := (1 : Int32)) hx hb dL_digest_12 (by decide) ?_
      exact z_iret C hz hw rfl rfl (by show _ ≤ 2; omega) (by show _ ≤ 12; omega) dL_digest_13
    · have hf := ie hf c0
      by_cases c1 : k1 = 1
      · have hf := ip hf c1
        obtain ⟨rfl, rfl⟩ := sp hf
        subst c1
        refine x_back hw (x_runV C hT hw (mX9_digest hst e1) kXX9_digest ck9 rfl kb w944 w945 w946 ⟨Nat.le_of_ble_eq_true rfl, Nat.le_of_ble_eq_true rfl⟩ rfl hl.1 (rest := [.int (0 : Int32), .ref x2]) rfl (Nat.le_of_ble_eq_true rfl) dL_digest_4 (mc := 2) (ms := 12) rfl rfl ⟨by show _ + 2 ≤ 2; omega, by show _ + 12 ≤ 12; omega⟩) (fun v2 hv2 => inr_inl hv2) (fun k2 hk2 H locs q9 ce z hz hw g1 g2 g3 => ?_)
        obtain rfl := inr_inr hk2
        refine vx_catch C.2.2.2.1 [(⟨0, 8, 11, 13⟩ : ExceptionTableEntry)] (⟨0, 8, 14, 15⟩ : ExceptionTableEntry) [] (hE.trans rfl) (List.forall_mem_cons.mpr ⟨Or.inr ⟨by decide, _, C.2.2.2.2.1 _ w275, hT.2.2.2.2 (ename 1, "java/lang/IndexOutOfBoundsException") (by decide)⟩, fun _ h9 => absurd h9 List.not_mem_nil⟩) rfl (by decide) (C.2.2.2.2.1 _ w276) ((hT.2.2.2.1 (Cond.castable (ename 1) "java/lang/IllegalStateException") (by decide)).use rfl) g1 g2 g3 ?_
        refine lv_astore_n (lv' := [(3, .ref q9), (0, .ref x0), (1, .int x1), (2, .ref x2)]) hx hb dL_digest_14 rfl hl (by decide) rfl (fun ls hl => ?_)
        refine lv_iconst (v := (2 : Int32)) hx hb dL_digest_15 (by decide) ?_
        exact z_iret C hz hw rfl rfl (by show _ ≤ 2; omega) (by show _ ≤ 12; omega) dL_digest_16
      · have hf := ie hf c1
        cases hf
abbrev rL_entry : Room := { frames := 8, cells := 1, slots := 6, locals := 135 }
abbrev hhL_entry : List (Nat × Nat × Nat × Nat) := [(0, 10, 13, 13)]
theorem w935 : Cond.codeWith yL_entry cL_entry 5 (some .int) hhL_entry ∈ GW := gw_t (List.mem_of_getElem? (i := 935) (by decide +kernel)) (by decide +kernel)
set_option maxRecDepth 100000 in
set_option maxHeartbeats 4000000 in
theorem mL_entry {D : va_G} {cy : Nat → ClassId} {s0 : Nat} {l : Launch} {x0 : Nat} {x1 : Int32} {x2 : Int32} {x3 : Nat} {h : Hp} {v : Int32} {h1 : Hp} (hst : l.stackTraces = false) (hf : fL_entry x0 x1 x2 x3 h = some (v, h1)) : WT D cy s0 l yL_entry cL_entry 5 (some .int) hhL_entry rL_entry [.ref x0, .int x1, .int x2, .ref x3] h (some (.int v)) h1 := by
  refine WT.of (by decide +kernel) (Nat.le_of_ble_eq_true rfl) ?_
  intro p e s m below meth c H locs ls C hT hE hw hl
  have hx := C.1
  have hb := C.2.1
  unfold fL_entry at hf
  have hcc : (0 : Nat) ≤ 0 := Nat.le_refl 0
  obtain ⟨kb, hf⟩ := ig hf
  refine lv_aload_n hx hb dL_entry_0 rfl (lv_at hl 3 rfl) ?_
  refine lv_iconst (v := (0 : Int32)) hx hb dL_entry_1 (by decide) ?_
  refine lv_aload_n hx hb dL_entry_2 rfl (lv_at hl 0 rfl) ?_
  refine lv_iload_n hx hb dL_entry_3 rfl (lv_at hl 1 rfl) ?_
  refine lv_iload_n hx hb dL_entry_4 rfl (lv_at hl 2 rfl) ?_
  rcases obc hf with ⟨z1, h1, e1, hf⟩ | ⟨k1, h1, e1, hf⟩
  · refine x_ret (v := (some (.int z1))) rfl hw (x_runV C hT hw (mX9_entry hst e1) kXX9_entry ck9 rfl kb w936 w937 w938 ⟨Nat.le_of_ble_eq_true rfl, Nat.le_of_ble_eq_true rfl⟩ rfl hl.1 (rest := [.int (0 : Int32), .ref x3]) rfl (Nat.le_of_ble_eq_true rfl) dL_entry_5 (mc := 1) (ms := 6) rfl rfl ⟨by show _ + 1 ≤ 1; omega, by show _ + 6 ≤ 6; omega⟩) (fun H locs hw => ?_)
    refine W.eq (g2 := F0 m 8 ls [.int z1, .int (0 : Int32), .ref x3]) rfl ?_
    refine lv_i2l (v := (z1.toInt64)) hx hb dL_entry_8 rfl ?_
    obtain ⟨h2, e2, hf⟩ := ob hf
    refine r_last C hw e2 dL_entry_9 (fun H locs hw => ?_)
    refine lv_goto (tgt := 17) hx hb dL_entry_10 (by decide) ?_
    refine lv_iconst (v := (0 : Int32)) hx hb dL_entry_17 (by decide) ?_
    obtain ⟨rfl, rfl⟩ := sp hf
    exact z_iret C (Nat.le_refl _) hw rfl rfl (by show _ ≤ 1; omega) (by show _ ≤ 6; omega) dL_entry_18
  · by_cases c0 : k1 = 0
    · have hf := ip hf c0
      obtain ⟨rfl, rfl⟩ := sp hf
      subst c0
      refine x_back hw (x_runV C hT hw (mX9_entry hst e1) kXX9_entry ck9 rfl kb w936 w937 w938 ⟨Nat.le_of_ble_eq_true rfl, Nat.le_of_ble_eq_true rfl⟩ rfl hl.1 (rest := [.int (0 : Int32), .ref x3]) rfl (Nat.le_of_ble_eq_true rfl) dL_entry_5 (mc := 1) (ms := 6) rfl rfl ⟨by show _ + 1 ≤ 1; omega, by show _ + 6 ≤ 6; omega⟩) (fun v2 hv2 => inr_inl hv2) (fun k2 hk2 H locs q9 ce z hz hw g1 g2 g3 => ?_)
      obtain rfl := inr_inr hk2
      refine vx_catch C.2.2.2.1 [] (⟨0, 10, 13, 13⟩ : ExceptionTableEntry) [] (hE.trans rfl) (fun _ h9 => absurd h9 List.not_mem_nil) rfl (by decide) (C.2.2.2.2.1 _ w275) ((hT.2.2.2.1 (Cond.castable (ename 0) "java/lang/IndexOutOfBoundsException") (by decide)).use rfl) g1 g2 g3 ?_
      refine lv_astore (lv' := [(4, .ref q9), (0, .ref x0), (1, .int x1), (2, .int x2), (3, .ref x3)]) hx hb dL_entry_13 hl (by decide) rfl (fun ls hl => ?_)
      refine lv_iconst (v := (1 : Int32)) hx hb dL_entry_15 (by decide) ?_
      exact z_iret C hz hw rfl rfl (by show _ ≤ 1; omega) (by show _ ≤ 6; omega) dL_entry_16
    · have hf := ie hf c0
      cases hf
abbrev rL_event : Room := { frames := 8, cells := 3, slots := 18, locals := 139 }
abbrev hhL_event : List (Nat × Nat × Nat × Nat) := [(0, 11, 14, 13), (0, 11, 18, 15), (0, 11, 22, 24)]
theorem w892 : Cond.codeWith yL_event cL_event 6 (some .int) hhL_event ∈ GW := gw_t (List.mem_of_getElem? (i := 892) (by decide +kernel)) (by decide +kernel)
set_option maxRecDepth 100000 in
set_option maxHeartbeats 4000000 in
theorem mL_event {D : va_G} {cy : Nat → ClassId} {s0 : Nat} {l : Launch} {x0 : Nat} {x1 : Int32} {x2 : Int32} {x3 : Int32} {x4 : Nat} {h : Hp} {v : Int32} {h1 : Hp} (hst : l.stackTraces = false) (hf : fL_event x0 x1 x2 x3 x4 h = some (v, h1)) : WT D cy s0 l yL_event cL_event 6 (some .int) hhL_event rL_event [.ref x0, .int x1, .int x2, .int x3, .ref x4] h (some (.int v)) h1 := by
  refine WT.of (by decide +kernel) (Nat.le_of_ble_eq_true rfl) ?_
  intro p e s m below meth c H locs ls C hT hE hw hl
  have hx := C.1
  have hb := C.2.1
  unfold fL_event at hf
  have hcc : (0 : Nat) ≤ 0 := Nat.le_refl 0
  obtain ⟨kb, hf⟩ := ig hf
  refine lv_aload hx hb dL_event_0 (lv_at hl 4 rfl) ?_
  refine lv_iconst (v := (0 : Int32)) hx hb dL_event_2 (by decide) ?_
  refine lv_aload_n hx hb dL_event_3 rfl (lv_at hl 0 rfl) ?_
  refine lv_iload_n hx hb dL_event_4 rfl (lv_at hl 1 rfl) ?_
  refine lv_iload_n hx hb dL_event_5 rfl (lv_at hl 2 rfl) ?_
  refine lv_iload_n hx hb dL_event_6 rfl (lv_at hl 3 rfl) ?_
  rcases obc hf with ⟨z1, h1, e1, hf⟩ | ⟨k1, h1, e1, hf⟩
  · refine x_ret (v := (some (.long z1))) rfl hw (x_runV C hT hw (mX9_event hst e1) kXX9_event ck9 rfl kb w893 w894 w895 ⟨Nat.le_of_ble_eq_true rfl, Nat.le_of_ble_eq_true rfl⟩ rfl hl.1 (rest := [.int (0 : Int32), .ref x4]) rfl (Nat.le_of_ble_eq_true rfl) dL_event_7 (mc := 3) (ms := 18) rfl rfl ⟨by show _ + 3 ≤ 3; omega, by show _ + 18 ≤ 18; omega⟩) (fun H locs hw => ?_)
    refine W.eq (g2 := F0 m 10 ls [.long z1, .int (0 : Int32), .ref x4]) rfl ?_
    obtain ⟨h2, e2, hf⟩ := ob hf
    refine r_last C hw e2 dL_event_10 (fun H locs hw => ?_)
    refine lv_goto (tgt := 26) hx hb dL_event_11 (by decide) ?_
    refine lv_iconst (v := (0 : Int32)) hx hb dL_event_26 (by decide) ?_
    obtain ⟨rfl, rfl⟩ := sp hf
    exact z_iret C (Nat.le_refl _) hw rfl rfl (by show _ ≤ 3; omega) (by show _ ≤ 18; omega) dL_event_27
  · by_cases c0 : k1 = 0
    · have hf := ip hf c0
      obtain ⟨rfl, rfl⟩ := sp hf
      subst c0
      refine x_back hw (x_runV C hT hw (mX9_event hst e1) kXX9_event ck9 rfl kb w893 w894 w895 ⟨Nat.le_of_ble_eq_true rfl, Nat.le_of_ble_eq_true rfl⟩ rfl hl.1 (rest := [.int (0 : Int32), .ref x4]) rfl (Nat.le_of_ble_eq_true rfl) dL_event_7 (mc := 3) (ms := 18) rfl rfl ⟨by show _ + 3 ≤ 3; omega, by show _ + 18 ≤ 18; omega⟩) (fun v2 hv2 => inr_inl hv2) (fun k2 hk2 H locs q9 ce z hz hw g1 g2 g3 => ?_)
      obtain rfl := inr_inr hk2
      refine vx_catch C.2.2.2.1 [] (⟨0, 11, 14, 13⟩ : ExceptionTableEntry) [(⟨0, 11, 18, 15⟩ : ExceptionTableEntry), (⟨0, 11, 22, 24⟩ : ExceptionTableEntry)] (hE.trans rfl) (fun _ h9 => absurd h9 List.not_mem_nil) rfl (by decide) (C.2.2.2.2.1 _ w275) ((hT.2.2.2.1 (Cond.castable (ename 0) "java/lang/IndexOutOfBoundsException") (by decide)).use rfl) g1 g2 g3 ?_
      refine lv_astore (lv' := [(5, .ref q9), (0, .ref x0), (1, .int x1), (2, .int x2), (3, .int x3), (4, .ref x4)]) hx hb dL_event_14 hl (by decide) rfl (fun ls hl => ?_)
      refine lv_iconst (v := (1 : Int32)) hx hb dL_event_16 (by decide) ?_
      exact z_iret C hz hw rfl rfl (by show _ ≤ 3; omega) (by show _ ≤ 18; omega) dL_event_17
    · have hf := ie hf c0
      by_cases c1 : k1 = 1
      · have hf := ip hf c1
        obtain ⟨rfl, rfl⟩ := sp hf
        subst c1
        refine x_back hw (x_runV C hT hw (mX9_event hst e1) kXX9_event ck9 rfl kb w893 w894 w895 ⟨Nat.le_of_ble_eq_true rfl, Nat.le_of_ble_eq_true rfl⟩ rfl hl.1 (rest := [.int (0 : Int32), .ref x4]) rfl (Nat.le_of_ble_eq_true rfl) dL_event_7 (mc := 3) (ms := 18) rfl rfl ⟨by show _ + 3 ≤ 3; omega, by show _ + 18 ≤ 18; omega⟩) (fun v2 hv2 => inr_inl hv2) (fun k2 hk2 H locs q9 ce z hz hw g1 g2 g3 => ?_)
        obtain rfl := inr_inr hk2
        refine vx_catch C.2.2.2.1 [(⟨0, 11, 14, 13⟩ : ExceptionTableEntry)] (⟨0, 11, 18, 15⟩ : ExceptionTableEntry) [(⟨0, 11, 22, 24⟩ : ExceptionTableEntry)] (hE.trans rfl) (List.forall_mem_cons.mpr ⟨Or.inr ⟨by decide, _, C.2.2.2.2.1 _ w275, hT.2.2.2.2 (ename 1, "java/lang/IndexOutOfBoundsException") (by decide)⟩, fun _ h9 => absurd h9 List.not_mem_nil⟩) rfl (by decide) (C.2.2.2.2.1 _ w276) ((hT.2.2.2.1 (Cond.castable (ename 1) "java/lang/IllegalStateException") (by decide)).use rfl) g1 g2 g3 ?_
        refine lv_astore (lv' := [(5, .ref q9), (0, .ref x0), (1, .int x1), (2, .int x2), (3, .int x3), (4, .ref x4)]) hx hb dL_event_18 hl (by decide) rfl (fun ls hl => ?_)
        refine lv_iconst (v := (2 : Int32)) hx hb dL_event_20 (by decide) ?_
        exact z_iret C hz hw rfl rfl (by show _ ≤ 3; omega) (by show _ ≤ 18; omega) dL_event_21
      · have hf := ie hf c1
        by_cases c2 : k1 = 2
        · have hf := ip hf c2
          obtain ⟨rfl, rfl⟩ := sp hf
          subst c2
          refine x_back hw (x_runV C hT hw (mX9_event hst e1) kXX9_event ck9 rfl kb w893 w894 w895 ⟨Nat.le_of_ble_eq_true rfl, Nat.le_of_ble_eq_true rfl⟩ rfl hl.1 (rest := [.int (0 : Int32), .ref x4]) rfl (Nat.le_of_ble_eq_true rfl) dL_event_7 (mc := 3) (ms := 18) rfl rfl ⟨by show _ + 3 ≤ 3; omega, by show _ + 18 ≤ 18; omega⟩) (fun v2 hv2 => inr_inl hv2) (fun k2 hk2 H locs q9 ce z hz hw g1 g2 g3 => ?_)
          obtain rfl := inr_inr hk2
          refine vx_catch C.2.2.2.1 [(⟨0, 11, 14, 13⟩ : ExceptionTableEntry), (⟨0, 11, 18, 15⟩ : ExceptionTableEntry)] (⟨0, 11, 22, 24⟩ : ExceptionTableEntry) [] (hE.trans rfl) (List.forall_mem_cons.mpr ⟨Or.inr ⟨by decide, _, C.2.2.2.2.1 _ w275, hT.2.2.2.2 (ename 2, "java/lang/IndexOutOfBoundsException") (by decide)⟩, List.forall_mem_cons.mpr ⟨Or.inr ⟨by decide, _, C.2.2.2.2.1 _ w276, hT.2.2.2.2 (ename 2, "java/lang/IllegalStateException") (by decide)⟩, fun _ h9 => absurd h9 List.not_mem_nil⟩⟩) rfl (by decide) (C.2.2.2.2.1 _ w734) ((hT.2.2.2.1 (Cond.castable (ename 2) "java/lang/IllegalArgumentException") (by decide)).use rfl) g1 g2 g3 ?_
          refine lv_astore (lv' := [(5, .ref q9), (0, .ref x0), (1, .int x1), (2, .int x2), (3, .int x3), (4, .ref x4)]) hx hb dL_event_22 hl (by decide) rfl (fun ls hl => ?_)
          refine lv_iconst (v := (3 : Int32)) hx hb dL_event_24 (by decide) ?_
          exact z_iret C hz hw rfl rfl (by show _ ≤ 3; omega) (by show _ ≤ 18; omega) dL_event_25
        · have hf := ie hf c2
          cases hf
abbrev rL_expire : Room := { frames := 8, cells := 10, slots := 87, locals := 136 }
abbrev hhL_expire : List (Nat × Nat × Nat × Nat) := [(0, 9, 12, 13), (0, 9, 15, 15)]
theorem w274 : Cond.codeWith yL_expire cL_expire 4 (some .int) hhL_expire ∈ GW := gw_t (List.mem_of_getElem? (i := 274) (by decide +kernel)) (by decide +kernel)
set_option maxRecDepth 100000 in
set_option maxHeartbeats 4000000 in
theorem mL_expire {D : va_G} {cy : Nat → ClassId} {s0 : Nat} {l : Launch} {x0 : Nat} {x1 : Int32} {x2 : Nat} {h : Hp} {v : Int32} {h1 : Hp} (hst : l.stackTraces = false) (hf : fL_expire x0 x1 x2 h = some (v, h1)) : WT D cy s0 l yL_expire cL_expire 4 (some .int) hhL_expire rL_expire [.ref x0, .int x1, .ref x2] h (some (.int v)) h1 := by
  refine WT.of (by decide +kernel) (Nat.le_of_ble_eq_true rfl) ?_
  intro p e s m below meth c H locs ls C hT hE hw hl
  have hx := C.1
  have hb := C.2.1
  unfold fL_expire at hf
  have hcc : (0 : Nat) ≤ 0 := Nat.le_refl 0
  obtain ⟨kb, hf⟩ := ig hf
  refine lv_aload_n hx hb dL_expire_0 rfl (lv_at hl 2 rfl) ?_
  refine lv_iconst (v := (0 : Int32)) hx hb dL_expire_1 (by decide) ?_
  refine lv_aload_n hx hb dL_expire_2 rfl (lv_at hl 0 rfl) ?_
  refine lv_iload_n hx hb dL_expire_3 rfl (lv_at hl 1 rfl) ?_
  rcases obc hf with ⟨z1, h1, e1, hf⟩ | ⟨k1, h1, e1, hf⟩
  · refine x_ret (v := (some (.int z1))) rfl hw (x_runV C hT hw (mX9_expire hst e1) kXX9_expire ck9 rfl kb w277 w278 w279 ⟨Nat.le_of_ble_eq_true rfl, Nat.le_of_ble_eq_true rfl⟩ rfl hl.1 (rest := [.int (0 : Int32), .ref x2]) rfl (Nat.le_of_ble_eq_true rfl) dL_expire_4 (mc := 10) (ms := 87) rfl rfl ⟨by show _ + 10 ≤ 10; omega, by show _ + 87 ≤ 87; omega⟩) (fun H locs hw => ?_)
    refine W.eq (g2 := F0 m 7 ls [.int z1, .int (0 : Int32), .ref x2]) rfl ?_
    refine lv_i2l (v := (z1.toInt64)) hx hb dL_expire_7 rfl ?_
    obtain ⟨h2, e2, hf⟩ := ob hf
    refine r_last C hw e2 dL_expire_8 (fun H locs hw => ?_)
    refine lv_goto (tgt := 18) hx hb dL_expire_9 (by decide) ?_
    refine lv_iconst (v := (0 : Int32)) hx hb dL_expire_18 (by decide) ?_
    obtain ⟨rfl, rfl⟩ := sp hf
    exact z_iret C (Nat.le_refl _) hw rfl rfl (by show _ ≤ 10; omega) (by show _ ≤ 87; omega) dL_expire_19
  · by_cases c0 : k1 = 0
    · have hf := ip hf c0
      obtain ⟨rfl, rfl⟩ := sp hf
      subst c0
      refine x_back hw (x_runV C hT hw (mX9_expire hst e1) kXX9_expire ck9 rfl kb w277 w278 w279 ⟨Nat.le_of_ble_eq_true rfl, Nat.le_of_ble_eq_true rfl⟩ rfl hl.1 (rest := [.int (0 : Int32), .ref x2]) rfl (Nat.le_of_ble_eq_true rfl) dL_expire_4 (mc := 10) (ms := 87) rfl rfl ⟨by show _ + 10 ≤ 10; omega, by show _ + 87 ≤ 87; omega⟩) (fun v2 hv2 => inr_inl hv2) (fun k2 hk2 H locs q9 ce z hz hw g1 g2 g3 => ?_)
      obtain rfl := inr_inr hk2
      refine vx_catch C.2.2.2.1 [] (⟨0, 9, 12, 13⟩ : ExceptionTableEntry) [(⟨0, 9, 15, 15⟩ : ExceptionTableEntry)] (hE.trans rfl) (fun _ h9 => absurd h9 List.not_mem_nil) rfl (by decide) (C.2.2.2.2.1 _ w275) ((hT.2.2.2.1 (Cond.castable (ename 0) "java/lang/IndexOutOfBoundsException") (by decide)).use rfl) g1 g2 g3 ?_
      refine lv_astore_n (lv' := [(3, .ref q9), (0, .ref x0), (1, .int x1), (2, .ref x2)]) hx hb dL_expire_12 rfl hl (by decide) rfl (fun ls hl => ?_)
      refine lv_iconst (v := (1 : Int32)) hx hb dL_expire_13 (by decide) ?_
      exact z_iret C hz hw rfl rfl (by show _ ≤ 10; omega) (by show _ ≤ 87; omega) dL_expire_14
    · have hf := ie hf c0
      by_cases c1 : k1 = 1
      · have hf := ip hf c1
        obtain ⟨rfl, rfl⟩ := sp hf
        subst c1
        refine x_back hw (x_runV C hT hw (mX9_expire hst e1) kXX9_expire ck9 rfl kb w277 w278 w279 ⟨Nat.le_of_ble_eq_true rfl, Nat.le_of_ble_eq_true rfl⟩ rfl hl.1 (rest := [.int (0 : Int32), .ref x2]) rfl (Nat.le_of_ble_eq_true rfl) dL_expire_4 (mc := 10) (ms := 87) rfl rfl ⟨by show _ + 10 ≤ 10; omega, by show _ + 87 ≤ 87; omega⟩) (fun v2 hv2 => inr_inl hv2) (fun k2 hk2 H locs q9 ce z hz hw g1 g2 g3 => ?_)
        obtain rfl := inr_inr hk2
        refine vx_catch C.2.2.2.1 [(⟨0, 9, 12, 13⟩ : ExceptionTableEntry)] (⟨0, 9, 15, 15⟩ : ExceptionTableEntry) [] (hE.trans rfl) (List.forall_mem_cons.mpr ⟨Or.inr ⟨by decide, _, C.2.2.2.2.1 _ w275, hT.2.2.2.2 (ename 1, "java/lang/IndexOutOfBoundsException") (by decide)⟩, fun _ h9 => absurd h9 List.not_mem_nil⟩) rfl (by decide) (C.2.2.2.2.1 _ w276) ((hT.2.2.2.1 (Cond.castable (ename 1) "java/lang/IllegalStateException") (by decide)).use rfl) g1 g2 g3 ?_
        refine lv_astore_n (lv' := [(3, .ref q9), (0, .ref x0), (1, .int x1), (2, .ref x2)]) hx hb dL_expire_15 rfl hl (by decide) rfl (fun ls hl => ?_)
        refine lv_iconst (v := (2 : Int32)) hx hb dL_expire_16 (by decide) ?_
        exact z_iret C hz hw rfl rfl (by show _ ≤ 10; omega) (by show _ ≤ 87; omega) dL_expire_17
      · have hf := ie hf c1
        cases hf
abbrev rL_key : Room := { frames := 9, cells := 3, slots := 18, locals := 160 }
abbrev hhL_key : List (Nat × Nat × Nat × Nat) := [(0, 12, 15, 13), (0, 12, 19, 15), (0, 12, 23, 24)]
theorem w852 : Cond.codeWith yL_key cL_key 6 (some .int) hhL_key ∈ GW := gw_t (List.mem_of_getElem? (i := 852) (by decide +kernel)) (by decide +kernel)
set_option maxRecDepth 100000 in
set_option maxHeartbeats 4000000 in
theorem mL_key {D : va_G} {cy : Nat → ClassId} {s0 : Nat} {l : Launch} {x0 : Nat} {x1 : Int32} {x2 : Int32} {x3 : Int32} {x4 : Nat} {h : Hp} {v : Int32} {h1 : Hp} (hst : l.stackTraces = false) (hf : fL_key x0 x1 x2 x3 x4 h = some (v, h1)) : WT D cy s0 l yL_key cL_key 6 (some .int) hhL_key rL_key [.ref x0, .int x1, .int x2, .int x3, .ref x4] h (some (.int v)) h1 := by
  refine WT.of (by decide +kernel) (Nat.le_of_ble_eq_true rfl) ?_
  intro p e s m below meth c H locs ls C hT hE hw hl
  have hx := C.1
  have hb := C.2.1
  unfold fL_key at hf
  have hcc : (0 : Nat) ≤ 0 := Nat.le_refl 0
  obtain ⟨kb, hf⟩ := ig hf
  refine lv_aload hx hb dL_key_0 (lv_at hl 4 rfl) ?_
  refine lv_iconst (v := (0 : Int32)) hx hb dL_key_2 (by decide) ?_
  refine lv_aload_n hx hb dL_key_3 rfl (lv_at hl 0 rfl) ?_
  refine lv_iload_n hx hb dL_key_4 rfl (lv_at hl 1 rfl) ?_
  refine lv_iload_n hx hb dL_key_5 rfl (lv_at hl 2 rfl) ?_
  refine lv_iload_n hx hb dL_key_6 rfl (lv_at hl 3 rfl) ?_
  rcases obc hf with ⟨z1, h1, e1, hf⟩ | ⟨k1, h1, e1, hf⟩
  · refine x_ret (v := (some (.int z1))) rfl hw (x_runV C hT hw (mX9_key hst e1) kXX9_key ck9 rfl kb w853 w854 w855 ⟨Nat.le_of_ble_eq_true rfl, Nat.le_of_ble_eq_true rfl⟩ rfl hl.1 (rest := [.int (0 : Int32), .ref x4]) rfl (Nat.le_of_ble_eq_true rfl) dL_key_7 (mc := 3) (ms := 18) rfl rfl ⟨by show _ + 3 ≤ 3; omega, by show _ + 18 ≤ 18; omega⟩) (fun H locs hw => ?_)
    refine W.eq (g2 := F0 m 10 ls [.int z1, .int (0 : Int32), .ref x4]) rfl ?_
    refine lv_i2l (v := (z1.toInt64)) hx hb dL_key_10 rfl ?_
    obtain ⟨h2, e2, hf⟩ := ob hf
    refine r_last C hw e2 dL_key_11 (fun H locs hw => ?_)
    refine lv_goto (tgt := 27) hx hb dL_key_12 (by decide) ?_
    refine lv_iconst (v := (0 : Int32)) hx hb dL_key_27 (by decide) ?_
    obtain ⟨rfl, rfl⟩ := sp hf
    exact z_iret C (Nat.le_refl _) hw rfl rfl (by show _ ≤ 3; omega) (by show _ ≤ 18; omega) dL_key_28
  · by_cases c0 : k1 = 0
    · have hf := ip hf c0
      obtain ⟨rfl, rfl⟩ := sp hf
      subst c0
      refine x_back hw (x_runV C hT hw (mX9_key hst e1) kXX9_key ck9 rfl kb w853 w854 w855 ⟨Nat.le_of_ble_eq_true rfl, Nat.le_of_ble_eq_true rfl⟩ rfl hl.1 (rest := [.int (0 : Int32), .ref x4]) rfl (Nat.le_of_ble_eq_true rfl) dL_key_7 (mc := 3) (ms := 18) rfl rfl ⟨by show _ + 3 ≤ 3; omega, by show _ + 18 ≤ 18; omega⟩) (fun v2 hv2 => inr_inl hv2) (fun k2 hk2 H locs q9 ce z hz hw g1 g2 g3 => ?_)
      obtain rfl := inr_inr hk2
      refine vx_catch C.2.2.2.1 [] (⟨0, 12, 15, 13⟩ : ExceptionTableEntry) [(⟨0, 12, 19, 15⟩ : ExceptionTableEntry), (⟨0, 12, 23, 24⟩ : ExceptionTableEntry)] (hE.trans rfl) (fun _ h9 => absurd h9 List.not_mem_nil) rfl (by decide) (C.2.2.2.2.1 _ w275) ((hT.2.2.2.1 (Cond.castable (ename 0) "java/lang/IndexOutOfBoundsException") (by decide)).use rfl) g1 g2 g3 ?_
      refine lv_astore (lv' := [(5, .ref q9), (0, .ref x0), (1, .int x1), (2, .int x2), (3, .int x3), (4, .ref x4)]) hx hb dL_key_15 hl (by decide) rfl (fun ls hl => ?_)
      refine lv_iconst (v := (1 : Int32)) hx hb dL_key_17 (by decide) ?_
      exact z_iret C hz hw rfl rfl (by show _ ≤ 3; omega) (by show _ ≤ 18; omega) dL_key_18
    · have hf := ie hf c0
      by_cases c1 : k1 = 1
      · have hf := ip hf c1
        obtain ⟨rfl, rfl⟩ := sp hf
        subst c1
        refine x_back hw (x_runV C hT hw (mX9_key hst e1) kXX9_key ck9 rfl kb w853 w854 w855 ⟨Nat.le_of_ble_eq_true rfl, Nat.le_of_ble_eq_true rfl⟩ rfl hl.1 (rest := [.int (0 : Int32), .ref x4]) rfl (Nat.le_of_ble_eq_true rfl) dL_key_7 (mc := 3) (ms := 18) rfl rfl ⟨by show _ + 3 ≤ 3; omega, by show _ + 18 ≤ 18; omega⟩) (fun v2 hv2 => inr_inl hv2) (fun k2 hk2 H locs q9 ce z hz hw g1 g2 g3 => ?_)
        obtain rfl := inr_inr hk2
        refine vx_catch C.2.2.2.1 [(⟨0, 12, 15, 13⟩ : ExceptionTableEntry)] (⟨0, 12, 19, 15⟩ : ExceptionTableEntry) [(⟨0, 12, 23, 24⟩ : ExceptionTableEntry)] (hE.trans rfl) (List.forall_mem_cons.mpr ⟨Or.inr ⟨by decide, _, C.2.2.2.2.1 _ w275, hT.2.2.2.2 (ename 1, "java/lang/IndexOutOfBoundsException") (by decide)⟩, fun _ h9 => absurd h9 List.not_mem_nil⟩) rfl (by decide) (C.2.2.2.2.1 _ w276) ((hT.2.2.2.1 (Cond.castable (ename 1) "java/lang/IllegalStateException") (by decide)).use rfl) g1 g2 g3 ?_
        refine lv_astore (lv' := [(5, .ref q9), (0, .ref x0), (1, .int x1), (2, .int x2), (3, .int x3), (4, .ref x4)]) hx hb dL_key_19 hl (by decide) rfl (fun ls hl => ?_)
        refine lv_iconst (v := (2 : Int32)) hx hb dL_key_21 (by decide) ?_
        exact z_iret C hz hw rfl rfl (by show _ ≤ 3; omega) (by show _ ≤ 18; omega) dL_key_22
      · have hf := ie hf c1
        by_cases c2 : k1 = 2
        · have hf := ip hf c2
          obtain ⟨rfl, rfl⟩ := sp hf
          subst c2
          refine x_back hw (x_runV C hT hw (mX9_key hst e1) kXX9_key ck9 rfl kb w853 w854 w855 ⟨Nat.le_of_ble_eq_true rfl, Nat.le_of_ble_eq_true rfl⟩ rfl hl.1 (rest := [.int (0 : Int32), .ref x4]) rfl (Nat.le_of_ble_eq_true rfl) dL_key_7 (mc := 3) (ms := 18) rfl rfl ⟨by show _ + 3 ≤ 3; omega, by show _ + 18 ≤ 18; omega⟩) (fun v2 hv2 => inr_inl hv2) (fun k2 hk2 H locs q9 ce z hz hw g1 g2 g3 => ?_)
          obtain rfl := inr_inr hk2
          refine vx_catch C.2.2.2.1 [(⟨0, 12, 15, 13⟩ : ExceptionTableEntry), (⟨0, 12, 19, 15⟩ : ExceptionTableEntry)] (⟨0, 12, 23, 24⟩ : ExceptionTableEntry) [] (hE.trans rfl) (List.forall_mem_cons.mpr ⟨Or.inr ⟨by decide, _, C.2.2.2.2.1 _ w275, hT.2.2.2.2 (ename 2, "java/lang/IndexOutOfBoundsException") (by decide)⟩, List.forall_mem_cons.mpr ⟨Or.inr ⟨by decide, _, C.2.2.2.2.1 _ w276, hT.2.2.2.2 (ename 2, "java/lang/IllegalStateException") (by decide)⟩, fun _ h9 => absurd h9 List.not_mem_nil⟩⟩) rfl (by decide) (C.2.2.2.2.1 _ w734) ((hT.2.2.2.1 (Cond.castable (ename 2) "java/lang/IllegalArgumentException") (by decide)).use rfl) g1 g2 g3 ?_
          refine lv_astore (lv' := [(5, .ref q9), (0, .ref x0), (1, .int x1), (2, .int x2), (3, .int x3), (4, .ref x4)]) hx hb dL_key_23 hl (by decide) rfl (fun ls hl => ?_)
          refine lv_iconst (v := (3 : Int32)) hx hb dL_key_25 (by decide) ?_
          exact z_iret C hz hw rfl rfl (by show _ ≤ 3; omega) (by show _ ≤ 18; omega) dL_key_26
        · have hf := ie hf c2
          cases hf
abbrev rL_message : Room := { frames := 8, cells := 2, slots := 12, locals := 136 }
abbrev hhL_message : List (Nat × Nat × Nat × Nat) := [(0, 10, 13, 13), (0, 10, 17, 24)]
theorem w902 : Cond.codeWith yL_message cL_message 5 (some .int) hhL_message ∈ GW := gw_t (List.mem_of_getElem? (i := 902) (by decide +kernel)) (by decide +kernel)
set_option maxRecDepth 100000 in
set_option maxHeartbeats 4000000 in
theorem mL_message {D : va_G} {cy : Nat → ClassId} {s0 : Nat} {l : Launch} {x0 : Nat} {x1 : Int32} {x2 : Int32} {x3 : Nat} {h : Hp} {v : Int32} {h1 : Hp} (hst : l.stackTraces = false) (hf : fL_message x0 x1 x2 x3 h = some (v, h1)) : WT D cy s0 l yL_message cL_message 5 (some .int) hhL_message rL_message [.ref x0, .int x1, .int x2, .ref x3] h (some (.int v)) h1 := by
  refine WT.of (by decide +kernel) (Nat.le_of_ble_eq_true rfl) ?_
  intro p e s m below meth c H locs ls C hT hE hw hl
  have hx := C.1
  have hb := C.2.1
  unfold fL_message at hf
  have hcc : (0 : Nat) ≤ 0 := Nat.le_refl 0
  obtain ⟨kb, hf⟩ := ig hf
  refine lv_aload_n hx hb dL_message_0 rfl (lv_at hl 3 rfl) ?_
  refine lv_iconst (v := (0 : Int32)) hx hb dL_message_1 (by decide) ?_
  refine lv_aload_n hx hb dL_message_2 rfl (lv_at hl 0 rfl) ?_
  refine lv_iload_n hx hb dL_message_3 rfl (lv_at hl 1 rfl) ?_
  refine lv_iload_n hx hb dL_message_4 rfl (lv_at hl 2 rfl) ?_
  rcases obc hf with ⟨z1, h1, e1, hf⟩ | ⟨k1, h1, e1, hf⟩
  · refine x_ret (v := (some (.int z1))) rfl hw (x_runV C hT hw (mX9_message hst e1) kXX9_message ck9 rfl kb w903 w904 w905 ⟨Nat.le_of_ble_eq_true rfl, Nat.le_of_ble_eq_true rfl⟩ rfl hl.1 (rest := [.int (0 : Int32), .ref x3]) rfl (Nat.le_of_ble_eq_true rfl) dL_message_5 (mc := 2) (ms := 12) rfl rfl ⟨by show _ + 2 ≤ 2; omega, by show _ + 12 ≤ 12; omega⟩) (fun H locs hw => ?_)
    refine W.eq (g2 := F0 m 8 ls [.int z1, .int (0 : Int32), .ref x3]) rfl ?_
    refine lv_i2l (v := (z1.toInt64)) hx hb dL_message_8 rfl ?_
    obtain ⟨h2, e2, hf⟩ := ob hf
    refine r_last C hw e2 dL_message_9 (fun H locs hw => ?_)
    refine lv_goto (tgt := 21) hx hb dL_message_10 (by decide) ?_
    refine lv_iconst (v := (0 : Int32)) hx hb dL_message_21 (by decide) ?_
    obtain ⟨rfl, rfl⟩ := sp hf
    exact z_iret C (Nat.le_refl _) hw rfl rfl (by show _ ≤ 2; omega) (by show _ ≤ 12; omega) dL_message_22
  · by_cases c0 : k1 = 0
    · have hf := ip hf c0
      obtain ⟨rfl, rfl⟩ := sp hf
      subst c0
      refine x_back hw (x_runV C hT hw (mX9_message hst e1) kXX9_message ck9 rfl kb w903 w904 w905 ⟨Nat.le_of_ble_eq_true rfl, Nat.le_of_ble_eq_true rfl⟩ rfl hl.1 (rest := [.int (0 : Int32), .ref x3]) rfl (Nat.le_of_ble_eq_true rfl) dL_message_5 (mc := 2) (ms := 12) rfl rfl ⟨by show _ + 2 ≤ 2; omega, by show _ + 12 ≤ 12; omega⟩) (fun v2 hv2 => inr_inl hv2) (fun k2 hk2 H locs q9 ce z hz hw g1 g2 g3 => ?_)
      obtain rfl := inr_inr hk2
      refine vx_catch C.2.2.2.1 [] (⟨0, 10, 13, 13⟩ : ExceptionTableEntry) [(⟨0, 10, 17, 24⟩ : ExceptionTableEntry)] (hE.trans rfl) (fun _ h9 => absurd h9 List.not_mem_nil) rfl (by decide) (C.2.2.2.2.1 _ w275) ((hT.2.2.2.1 (Cond.castable (ename 0) "java/lang/IndexOutOfBoundsException") (by decide)).use rfl) g1 g2 g3 ?_
      refine lv_astore (lv' := [(4, .ref q9), (0, .ref x0), (1, .int x1), (2, .int x2), (3, .ref x3)]) hx hb dL_message_13 hl (by decide) rfl (fun ls hl => ?_)
      refine lv_iconst (v := (1 : Int32)) hx hb dL_message_15 (by decide) ?_
      exact z_iret C hz hw rfl rfl (by show _ ≤ 2; omega) (by show _ ≤ 12; omega) dL_message_16
    · have hf := ie hf c0
      by_cases c1 : k1 = 2
      · have hf := ip hf c1
        obtain ⟨rfl, rfl⟩ := sp hf
        subst c1
        refine x_back hw (x_runV C hT hw (mX9_message hst e1) kXX9_message ck9 rfl kb w903 w904 w905 ⟨Nat.le_of_ble_eq_true rfl, Nat.le_of_ble_eq_true rfl⟩ rfl hl.1 (rest := [.int (0 : Int32), .ref x3]) rfl (Nat.le_of_ble_eq_true rfl) dL_message_5 (mc := 2) (ms := 12) rfl rfl ⟨by show _ + 2 ≤ 2; omega, by show _ + 12 ≤ 12; omega⟩) (fun v2 hv2 => inr_inl hv2) (fun k2 hk2 H locs q9 ce z hz hw g1 g2 g3 => ?_)
        obtain rfl := inr_inr hk2
        refine vx_catch C.2.2.2.1 [(⟨0, 10, 13, 13⟩ : ExceptionTableEntry)] (⟨0, 10, 17, 24⟩ : ExceptionTableEntry) [] (hE.trans rfl) (List.forall_mem_cons.mpr ⟨Or.inr ⟨by decide, _, C.2.2.2.2.1 _ w275, hT.2.2.2.2 (ename 2, "java/lang/IndexOutOfBoundsException") (by decide)⟩, fun _ h9 => absurd h9 List.not_mem_nil⟩) rfl (by decide) (C.2.2.2.2.1 _ w734) ((hT.2.2.2.1 (Cond.castable (ename 2) "java/lang/IllegalArgumentException") (by decide)).use rfl) g1 g2 g3 ?_
        refine lv_astore (lv' := [(4, .ref q9), (0, .ref x0), (1, .int x1), (2, .int x2), (3, .ref x3)]) hx hb dL_message_17 hl (by decide) rfl (fun ls hl => ?_)
        refine lv_iconst (v := (2 : Int32)) hx hb dL_message_19 (by decide) ?_
        exact z_iret C hz hw rfl rfl (by show _ ≤ 2; omega) (by show _ ≤ 12; omega) dL_message_20
      · have hf := ie hf c1
        cases hf
abbrev rL_node : Room := { frames := 8, cells := 2, slots := 12, locals := 136 }
abbrev hhL_node : List (Nat × Nat × Nat × Nat) := [(0, 10, 13, 13), (0, 10, 17, 24)]
theorem w915 : Cond.codeWith yL_node cL_node 5 (some .int) hhL_node ∈ GW := gw_t (List.mem_of_getElem? (i := 915) (by decide +kernel)) (by decide +kernel)
set_option maxRecDepth 100000 in
set_option maxHeartbeats 4000000 in
theorem mL_node {D : va_G} {cy : Nat → ClassId} {s0 : Nat} {l : Launch} {x0 : Nat} {x1 : Int32} {x2 : Int32} {x3 : Nat} {h : Hp} {v : Int32} {h1 : Hp} (hst : l.stackTraces = false) (hf : fL_node x0 x1 x2 x3 h = some (v, h1)) : WT D cy s0 l yL_node cL_node 5 (some .int) hhL_node rL_node [.ref x0, .int x1, .int x2, .ref x3] h (some (.int v)) h1 := by
  refine WT.of (by decide +kernel) (Nat.le_of_ble_eq_true rfl) ?_
  intro p e s m below meth c H locs ls C hT hE hw hl
  have hx := C.1
  have hb := C.2.1
  unfold fL_node at hf
  have hcc : (0 : Nat) ≤ 0 := Nat.le_refl 0
  obtain ⟨kb, hf⟩ := ig hf
  refine lv_aload_n hx hb dL_node_0 rfl (lv_at hl 3 rfl) ?_
  refine lv_iconst (v := (0 : Int32)) hx hb dL_node_1 (by decide) ?_
  refine lv_aload_n hx hb dL_node_2 rfl (lv_at hl 0 rfl) ?_
  refine lv_iload_n hx hb dL_node_3 rfl (lv_at hl 1 rfl) ?_
  refine lv_iload_n hx hb dL_node_4 rfl (lv_at hl 2 rfl) ?_
  rcases obc hf with ⟨z1, h1, e1, hf⟩ | ⟨k1, h1, e1, hf⟩
  · refine x_ret (v := (some (.int z1))) rfl hw (x_runV C hT hw (mX9_node hst e1) kXX9_node ck9 rfl kb w916 w917 w918 ⟨Nat.le_of_ble_eq_true rfl, Nat.le_of_ble_eq_true rfl⟩ rfl hl.1 (rest := [.int (0 : Int32), .ref x3]) rfl (Nat.le_of_ble_eq_true rfl) dL_node_5 (mc := 2) (ms := 12) rfl rfl ⟨by show _ + 2 ≤ 2; omega, by show _ + 12 ≤ 12; omega⟩) (fun H locs hw => ?_)
    refine W.eq (g2 := F0 m 8 ls [.int z1, .int (0 : Int32), .ref x3]) rfl ?_
    refine lv_i2l (v := (z1.toInt64)) hx hb dL_node_8 rfl ?_
    obtain ⟨h2, e2, hf⟩ := ob hf
    refine r_last C hw e2 dL_node_9 (fun H locs hw => ?_)
    refine lv_goto (tgt := 21) hx hb dL_node_10 (by decide) ?_
    refine lv_iconst (v := (0 : Int32)) hx hb dL_node_21 (by decide) ?_
    obtain ⟨rfl, rfl⟩ := sp hf
    exact z_iret C (Nat.le_refl _) hw rfl rfl (by show _ ≤ 2; omega) (by show _ ≤ 12; omega) dL_node_22
  · by_cases c0 : k1 = 0
    · have hf := ip hf c0
      obtain ⟨rfl, rfl⟩ := sp hf
      subst c0
      refine x_back hw (x_runV C hT hw (mX9_node hst e1) kXX9_node ck9 rfl kb w916 w917 w918 ⟨Nat.le_of_ble_eq_true rfl, Nat.le_of_ble_eq_true rfl⟩ rfl hl.1 (rest := [.int (0 : Int32), .ref x3]) rfl (Nat.le_of_ble_eq_true rfl) dL_node_5 (mc := 2) (ms := 12) rfl rfl ⟨by show _ + 2 ≤ 2; omega, by show _ + 12 ≤ 12; omega⟩) (fun v2 hv2 => inr_inl hv2) (fun k2 hk2 H locs q9 ce z hz hw g1 g2 g3 => ?_)
      obtain rfl := inr_inr hk2
      refine vx_catch C.2.2.2.1 [] (⟨0, 10, 13, 13⟩ : ExceptionTableEntry) [(⟨0, 10, 17, 24⟩ : ExceptionTableEntry)] (hE.trans rfl) (fun _ h9 => absurd h9 List.not_mem_nil) rfl (by decide) (C.2.2.2.2.1 _ w275) ((hT.2.2.2.1 (Cond.castable (ename 0) "java/lang/IndexOutOfBoundsException") (by decide)).use rfl) g1 g2 g3 ?_
      refine lv_astore (lv' := [(4, .ref q9), (0, .ref x0), (1, .int x1), (2, .int x2), (3, .ref x3)]) hx hb dL_node_13 hl (by decide) rfl (fun ls hl => ?_)
      refine lv_iconst (v := (1 : Int32)) hx hb dL_node_15 (by decide) ?_
      exact z_iret C hz hw rfl rfl (by show _ ≤ 2; omega) (by show _ ≤ 12; omega) dL_node_16
    · have hf := ie hf c0
      by_cases c1 : k1 = 2
      · have hf := ip hf c1
        obtain ⟨rfl, rfl⟩ := sp hf
        subst c1
        refine x_back hw (x_runV C hT hw (mX9_node hst e1) kXX9_node ck9 rfl kb w916 w917 w918 ⟨Nat.le_of_ble_eq_true rfl, Nat.le_of_ble_eq_true rfl⟩ rfl hl.1 (rest := [.int (0 : Int32), .ref x3]) rfl (Nat.le_of_ble_eq_true rfl) dL_node_5 (mc := 2) (ms := 12) rfl rfl ⟨by show _ + 2 ≤ 2; omega, by show _ + 12 ≤ 12; omega⟩) (fun v2 hv2 => inr_inl hv2) (fun k2 hk2 H locs q9 ce z hz hw g1 g2 g3 => ?_)
        obtain rfl := inr_inr hk2
        refine vx_catch C.2.2.2.1 [(⟨0, 10, 13, 13⟩ : ExceptionTableEntry)] (⟨0, 10, 17, 24⟩ : ExceptionTableEntry) [] (hE.trans rfl) (List.forall_mem_cons.mpr ⟨Or.inr ⟨by decide, _, C.2.2.2.2.1 _ w275, hT.2.2.2.2 (ename 2, "java/lang/IndexOutOfBoundsException") (by decide)⟩, fun _ h9 => absurd h9 List.not_mem_nil⟩) rfl (by decide) (C.2.2.2.2.1 _ w734) ((hT.2.2.2.1 (Cond.castable (ename 2) "java/lang/IllegalArgumentException") (by decide)).use rfl) g1 g2 g3 ?_
        refine lv_astore (lv' := [(4, .ref q9), (0, .ref x0), (1, .int x1), (2, .int x2), (3, .ref x3)]) hx hb dL_node_17 hl (by decide) rfl (fun ls hl => ?_)
        refine lv_iconst (v := (2 : Int32)) hx hb dL_node_19 (by decide) ?_
        exact z_iret C hz hw rfl rfl (by show _ ≤ 2; omega) (by show _ ≤ 12; omega) dL_node_20
      · have hf := ie hf c1
        cases hf
abbrev rL_past : Room := { frames := 9, cells := 3, slots := 18, locals := 161 }
abbrev hhL_past : List (Nat × Nat × Nat × Nat) := [(0, 12, 15, 13), (0, 12, 19, 15), (0, 12, 23, 24), (0, 12, 27, 47)]
theorem w867 : Cond.codeWith yL_past cL_past 6 (some .int) hhL_past ∈ GW := gw_t (List.mem_of_getElem? (i := 867) (by decide +kernel)) (by decide +kernel)
set_option maxRecDepth 100000 in
set_option maxHeartbeats 4000000 in
theorem mL_past {D : va_G} {cy : Nat → ClassId} {s0 : Nat} {l : Launch} {x0 : Nat} {x1 : Int32} {x2 : Int32} {x3 : Int32} {x4 : Nat} {h : Hp} {v : Int32} {h1 : Hp} (hst : l.stackTraces = false) (hf : fL_past x0 x1 x2 x3 x4 h = some (v, h1)) : WT D cy s0 l yL_past cL_past 6 (some .int) hhL_past rL_past [.ref x0, .int x1, .int x2, .int x3, .ref x4] h (some (.int v)) h1 := by
  refine WT.of (by decide +kernel) (Nat.le_of_ble_eq_true rfl) ?_
  intro p e s m below meth c H locs ls C hT hE hw hl
  have hx := C.1
  have hb := C.2.1
  unfold fL_past at hf
  have hcc : (0 : Nat) ≤ 0 := Nat.le_refl 0
  obtain ⟨kb, hf⟩ := ig hf
  refine lv_aload hx hb dL_past_0 (lv_at hl 4 rfl) ?_
  refine lv_iconst (v := (0 : Int32)) hx hb dL_past_2 (by decide) ?_
  refine lv_aload_n hx hb dL_past_3 rfl (lv_at hl 0 rfl) ?_
  refine lv_iload_n hx hb dL_past_4 rfl (lv_at hl 1 rfl) ?_
  refine lv_iload_n hx hb dL_past_5 rfl (lv_at hl 2 rfl) ?_
  refine lv_iload_n hx hb dL_past_6 rfl (lv_at hl 3 rfl) ?_
  rcases obc hf with ⟨z1, h1, e1, hf⟩ | ⟨k1, h1, e1, hf⟩
  · refine x_ret (v := (some (.int z1))) rfl hw (x_runV C hT hw (mX9_past hst e1) kXX9_past ck9 rfl kb w868 w869 w870 ⟨Nat.le_of_ble_eq_true rfl, Nat.le_of_ble_eq_true rfl⟩ rfl hl.1 (rest := [.int (0 : Int32), .ref x4]) rfl (Nat.le_of_ble_eq_true rfl) dL_past_7 (mc := 3) (ms := 18) rfl rfl ⟨by show _ + 3 ≤ 3; omega, by show _ + 18 ≤ 18; omega⟩) (fun H locs hw => ?_)
    refine W.eq (g2 := F0 m 10 ls [.int z1, .int (0 : Int32), .ref x4]) rfl ?_
    refine lv_i2l (v := (z1.toInt64)) hx hb dL_past_10 rfl ?_
    obtain ⟨h2, e2, hf⟩ := ob hf
    refine r_last C hw e2 dL_past_11 (fun H locs hw => ?_)
    refine lv_goto (tgt := 31) hx hb dL_past_12 (by decide) ?_
    refine lv_iconst (v := (0 : Int32)) hx hb dL_past_31 (by decide) ?_
    obtain ⟨rfl, rfl⟩ := sp hf
    exact z_iret C (Nat.le_refl _) hw rfl rfl (by show _ ≤ 3; omega) (by show _ ≤ 18; omega) dL_past_32
  · by_cases c0 : k1 = 0
    · have hf := ip hf c0
      obtain ⟨rfl, rfl⟩ := sp hf
      subst c0
      refine x_back hw (x_runV C hT hw (mX9_past hst e1) kXX9_past ck9 rfl kb w868 w869 w870 ⟨Nat.le_of_ble_eq_true rfl, Nat.le_of_ble_eq_true rfl⟩ rfl hl.1 (rest := [.int (0 : Int32), .ref x4]) rfl (Nat.le_of_ble_eq_true rfl) dL_past_7 (mc := 3) (ms := 18) rfl rfl ⟨by show _ + 3 ≤ 3; omega, by show _ + 18 ≤ 18; omega⟩) (fun v2 hv2 => inr_inl hv2) (fun k2 hk2 H locs q9 ce z hz hw g1 g2 g3 => ?_)
      obtain rfl := inr_inr hk2
      refine vx_catch C.2.2.2.1 [] (⟨0, 12, 15, 13⟩ : ExceptionTableEntry) [(⟨0, 12, 19, 15⟩ : ExceptionTableEntry), (⟨0, 12, 23, 24⟩ : ExceptionTableEntry), (⟨0, 12, 27, 47⟩ : ExceptionTableEntry)] (hE.trans rfl) (fun _ h9 => absurd h9 List.not_mem_nil) rfl (by decide) (C.2.2.2.2.1 _ w275) ((hT.2.2.2.1 (Cond.castable (ename 0) "java/lang/IndexOutOfBoundsException") (by decide)).use rfl) g1 g2 g3 ?_
      refine lv_astore (lv' := [(5, .ref q9), (0, .ref x0), (1, .int x1), (2, .int x2), (3, .int x3), (4, .ref x4)]) hx hb dL_past_15 hl (by decide) rfl (fun ls hl => ?_)
      refine lv_iconst (v := (1 : Int32)) hx hb dL_past_17 (by decide) ?_
      exact z_iret C hz hw rfl rfl (by show _ ≤ 3; omega) (by show _ ≤ 18; omega) dL_past_18
    · have hf := ie hf c0
      by_cases c1 : k1 = 1
      · have hf := ip hf c1
        obtain ⟨rfl, rfl⟩ := sp hf
        subst c1
        refine x_back hw (x_runV C hT hw (mX9_past hst e1) kXX9_past ck9 rfl kb w868 w869 w870 ⟨Nat.le_of_ble_eq_true rfl, Nat.le_of_ble_eq_true rfl⟩ rfl hl.1 (rest := [.int (0 : Int32), .ref x4]) rfl (Nat.le_of_ble_eq_true rfl) dL_past_7 (mc := 3) (ms := 18) rfl rfl ⟨by show _ + 3 ≤ 3; omega, by show _ + 18 ≤ 18; omega⟩) (fun v2 hv2 => inr_inl hv2) (fun k2 hk2 H locs q9 ce z hz hw g1 g2 g3 => ?_)
        obtain rfl := inr_inr hk2
        refine vx_catch C.2.2.2.1 [(⟨0, 12, 15, 13⟩ : ExceptionTableEntry)] (⟨0, 12, 19, 15⟩ : ExceptionTableEntry) [(⟨0, 12, 23, 24⟩ : ExceptionTableEntry), (⟨0, 12, 27, 47⟩ : ExceptionTableEntry)] (hE.trans rfl) (List.forall_mem_cons.mpr ⟨Or.inr ⟨by decide, _, C.2.2.2.2.1 _ w275, hT.2.2.2.2 (ename 1, "java/lang/IndexOutOfBoundsException") (by decide)⟩, fun _ h9 => absurd h9 List.not_mem_nil⟩) rfl (by decide) (C.2.2.2.2.1 _ w276) ((hT.2.2.2.1 (Cond.castable (ename 1) "java/lang/IllegalStateException") (by decide)).use rfl) g1 g2 g3 ?_
        refine lv_astore (lv' := [(5, .ref q9), (0, .ref x0), (1, .int x1), (2, .int x2), (3, .int x3), (4, .ref x4)]) hx hb dL_past_19 hl (by decide) rfl (fun ls hl => ?_)
        refine lv_iconst (v := (2 : Int32)) hx hb dL_past_21 (by decide) ?_
        exact z_iret C hz hw rfl rfl (by show _ ≤ 3; omega) (by show _ ≤ 18; omega) dL_past_22
      · have hf := ie hf c1
        by_cases c2 : k1 = 2
        · have hf := ip hf c2
          obtain ⟨rfl, rfl⟩ := sp hf
          subst c2
          refine x_back hw (x_runV C hT hw (mX9_past hst e1) kXX9_past ck9 rfl kb w868 w869 w870 ⟨Nat.le_of_ble_eq_true rfl, Nat.le_of_ble_eq_true rfl⟩ rfl hl.1 (rest := [.int (0 : Int32), .ref x4]) rfl (Nat.le_of_ble_eq_true rfl) dL_past_7 (mc := 3) (ms := 18) rfl rfl ⟨by show _ + 3 ≤ 3; omega, by show _ + 18 ≤ 18; omega⟩) (fun v2 hv2 => inr_inl hv2) (fun k2 hk2 H locs q9 ce z hz hw g1 g2 g3 => ?_)
          obtain rfl := inr_inr hk2
          refine vx_catch C.2.2.2.1 [(⟨0, 12, 15, 13⟩ : ExceptionTableEntry), (⟨0, 12, 19, 15⟩ : ExceptionTableEntry)] (⟨0, 12, 23, 24⟩ : ExceptionTableEntry) [(⟨0, 12, 27, 47⟩ : ExceptionTableEntry)] (hE.trans rfl) (List.forall_mem_cons.mpr ⟨Or.inr ⟨by decide, _, C.2.2.2.2.1 _ w275, hT.2.2.2.2 (ename 2, "java/lang/IndexOutOfBoundsException") (by decide)⟩, List.forall_mem_cons.mpr ⟨Or.inr ⟨by decide, _, C.2.2.2.2.1 _ w276, hT.2.2.2.2 (ename 2, "java/lang/IllegalStateException") (by decide)⟩, fun _ h9 => absurd h9 List.not_mem_nil⟩⟩) rfl (by decide) (C.2.2.2.2.1 _ w734) ((hT.2.2.2.1 (Cond.castable (ename 2) "java/lang/IllegalArgumentException") (by decide)).use rfl) g1 g2 g3 ?_
          refine lv_astore (lv' := [(5, .ref q9), (0, .ref x0), (1, .int x1), (2, .int x2), (3, .int x3), (4, .ref x4)]) hx hb dL_past_23 hl (by decide) rfl (fun ls hl => ?_)
          refine lv_iconst (v := (3 : Int32)) hx hb dL_past_25 (by decide) ?_
          exact z_iret C hz hw rfl rfl (by show _ ≤ 3; omega) (by show _ ≤ 18; omega) dL_past_26
        · have hf := ie hf c2
          by_cases c3 : k1 = 3
          · have hf := ip hf c3
            obtain ⟨rfl, rfl⟩ := sp hf
            subst c3
            refine x_back hw (x_runV C hT hw (mX9_past hst e1) kXX9_past ck9 rfl kb w868 w869 w870 ⟨Nat.le_of_ble_eq_true rfl, Nat.le_of_ble_eq_true rfl⟩ rfl hl.1 (rest := [.int (0 : Int32), .ref x4]) rfl (Nat.le_of_ble_eq_true rfl) dL_past_7 (mc := 3) (ms := 18) rfl rfl ⟨by show _ + 3 ≤ 3; omega, by show _ + 18 ≤ 18; omega⟩) (fun v2 hv2 => inr_inl hv2) (fun k2 hk2 H locs q9 ce z hz hw g1 g2 g3 => ?_)
            obtain rfl := inr_inr hk2
            refine vx_catch C.2.2.2.1 [(⟨0, 12, 15, 13⟩ : ExceptionTableEntry), (⟨0, 12, 19, 15⟩ : ExceptionTableEntry), (⟨0, 12, 23, 24⟩ : ExceptionTableEntry)] (⟨0, 12, 27, 47⟩ : ExceptionTableEntry) [] (hE.trans rfl) (List.forall_mem_cons.mpr ⟨Or.inr ⟨by decide, _, C.2.2.2.2.1 _ w275, hT.2.2.2.2 (ename 3, "java/lang/IndexOutOfBoundsException") (by decide)⟩, List.forall_mem_cons.mpr ⟨Or.inr ⟨by decide, _, C.2.2.2.2.1 _ w276, hT.2.2.2.2 (ename 3, "java/lang/IllegalStateException") (by decide)⟩, List.forall_mem_cons.mpr ⟨Or.inr ⟨by decide, _, C.2.2.2.2.1 _ w734, hT.2.2.2.2 (ename 3, "java/lang/IllegalArgumentException") (by decide)⟩, fun _ h9 => absurd h9 List.not_mem_nil⟩⟩⟩) rfl (by decide) (C.2.2.2.2.1 _ w825) ((hT.2.2.2.1 (Cond.castable (ename 3) "java/util/NoSuchElementException") (by decide)).use rfl) g1 g2 g3 ?_
            refine lv_astore (lv' := [(5, .ref q9), (0, .ref x0), (1, .int x1), (2, .int x2), (3, .int x3), (4, .ref x4)]) hx hb dL_past_27 hl (by decide) rfl (fun ls hl => ?_)
            refine lv_iconst (v := (4 : Int32)) hx hb dL_past_29 (by decide) ?_
            exact z_iret C hz hw rfl rfl (by show _ ≤ 3; omega) (by show _ ≤ 18; omega) dL_past_30
          · have hf := ie hf c3
            cases hf
abbrev rL_power : Room := { frames := 8, cells := 2, slots := 12, locals := 136 }
abbrev hhL_power : List (Nat × Nat × Nat × Nat) := [(0, 6, 9, 13), (0, 6, 12, 24)]
theorem w816 : Cond.codeWith yL_power cL_power 4 (some .int) hhL_power ∈ GW := gw_t (List.mem_of_getElem? (i := 816) (by decide +kernel)) (by decide +kernel)
set_option maxRecDepth 100000 in
set_option maxHeartbeats 4000000 in
theorem mL_power {D : va_G} {cy : Nat → ClassId} {s0 : Nat} {l : Launch} {x0 : Nat} {x1 : Int32} {x2 : Int32} {h : Hp} {v : Int32} {h1 : Hp} (hst : l.stackTraces = false) (hf : fL_power x0 x1 x2 h = some (v, h1)) : WT D cy s0 l yL_power cL_power 4 (some .int) hhL_power rL_power [.ref x0, .int x1, .int x2] h (some (.int v)) h1 := by
  refine WT.of (by decide +kernel) (Nat.le_of_ble_eq_true rfl) ?_
  intro p e s m below meth c H locs ls C hT hE hw hl
  have hx := C.1
  have hb := C.2.1
  unfold fL_power at hf
  have hcc : (0 : Nat) ≤ 0 := Nat.le_refl 0
  obtain ⟨kb, hf⟩ := ig hf
  refine lv_aload_n hx hb dL_power_0 rfl (lv_at hl 0 rfl) ?_
  refine lv_iload_n hx hb dL_power_1 rfl (lv_at hl 1 rfl) ?_
  refine lv_iload_n hx hb dL_power_2 rfl (lv_at hl 2 rfl) ?_
  rcases obc hf with ⟨z1, h1, e1, hf⟩ | ⟨k1, h1, e1, hf⟩
  · refine x_ret (v := none) rfl hw (x_runV C hT hw (mX9_power hst e1) kXX9_power ck9 rfl kb w817 w818 w819 ⟨Nat.le_of_ble_eq_true rfl, Nat.le_of_ble_eq_true rfl⟩ rfl hl.1 (rest := []) rfl (Nat.le_of_ble_eq_true rfl) dL_power_3 (mc := 2) (ms := 12) rfl rfl ⟨by show _ + 2 ≤ 2; omega, by show _ + 12 ≤ 12; omega⟩) (fun H locs hw => ?_)
    refine W.eq (g2 := F0 m 6 ls []) rfl ?_
    refine lv_goto (tgt := 15) hx hb dL_power_6 (by decide) ?_
    refine lv_iconst (v := (0 : Int32)) hx hb dL_power_15 (by decide) ?_
    obtain ⟨rfl, rfl⟩ := sp hf
    exact z_iret C (Nat.le_refl _) hw rfl rfl (by show _ ≤ 2; omega) (by show _ ≤ 12; omega) dL_power_16
  · by_cases c0 : k1 = 0
    · have hf := ip hf c0
      obtain ⟨rfl, rfl⟩ := sp hf
      subst c0
      refine x_back hw (x_runV C hT hw (mX9_power hst e1) kXX9_power ck9 rfl kb w817 w818 w819 ⟨Nat.le_of_ble_eq_true rfl, Nat.le_of_ble_eq_true rfl⟩ rfl hl.1 (rest := []) rfl (Nat.le_of_ble_eq_true rfl) dL_power_3 (mc := 2) (ms := 12) rfl rfl ⟨by show _ + 2 ≤ 2; omega, by show _ + 12 ≤ 12; omega⟩) (fun v2 hv2 => inr_inl hv2) (fun k2 hk2 H locs q9 ce z hz hw g1 g2 g3 => ?_)
      obtain rfl := inr_inr hk2
      refine vx_catch C.2.2.2.1 [] (⟨0, 6, 9, 13⟩ : ExceptionTableEntry) [(⟨0, 6, 12, 24⟩ : ExceptionTableEntry)] (hE.trans rfl) (fun _ h9 => absurd h9 List.not_mem_nil) rfl (by decide) (C.2.2.2.2.1 _ w275) ((hT.2.2.2.1 (Cond.castable (ename 0) "java/lang/IndexOutOfBoundsException") (by decide)).use rfl) g1 g2 g3 ?_
      refine lv_astore_n (lv' := [(3, .ref q9), (0, .ref x0), (1, .int x1), (2, .int x2)]) hx hb dL_power_9 rfl hl (by decide) rfl (fun ls hl => ?_)
      refine lv_iconst (v := (1 : Int32)) hx hb dL_power_10 (by decide) ?_
      exact z_iret C hz hw rfl rfl (by show _ ≤ 2; omega) (by show _ ≤ 12; omega) dL_power_11
    · have hf := ie hf c0
      by_cases c1 : k1 = 2
      · have hf := ip hf c1
        obtain ⟨rfl, rfl⟩ := sp hf
        subst c1
        refine x_back hw (x_runV C hT hw (mX9_power hst e1) kXX9_power ck9 rfl kb w817 w818 w819 ⟨Nat.le_of_ble_eq_true rfl, Nat.le_of_ble_eq_true rfl⟩ rfl hl.1 (rest := []) rfl (Nat.le_of_ble_eq_true rfl) dL_power_3 (mc := 2) (ms := 12) rfl rfl ⟨by show _ + 2 ≤ 2; omega, by show _ + 12 ≤ 12; omega⟩) (fun v2 hv2 => inr_inl hv2) (fun k2 hk2 H locs q9 ce z hz hw g1 g2 g3 => ?_)
        obtain rfl := inr_inr hk2
        refine vx_catch C.2.2.2.1 [(⟨0, 6, 9, 13⟩ : ExceptionTableEntry)] (⟨0, 6, 12, 24⟩ : ExceptionTableEntry) [] (hE.trans rfl) (List.forall_mem_cons.mpr ⟨Or.inr ⟨by decide, _, C.2.2.2.2.1 _ w275, hT.2.2.2.2 (ename 2, "java/lang/IndexOutOfBoundsException") (by decide)⟩, fun _ h9 => absurd h9 List.not_mem_nil⟩) rfl (by decide) (C.2.2.2.2.1 _ w734) ((hT.2.2.2.1 (Cond.castable (ename 2) "java/lang/IllegalArgumentException") (by decide)).use rfl) g1 g2 g3 ?_
        refine lv_astore_n (lv' := [(3, .ref q9), (0, .ref x0), (1, .int x1), (2, .int x2)]) hx hb dL_power_12 rfl hl (by decide) rfl (fun ls hl => ?_)
        refine lv_iconst (v := (2 : Int32)) hx hb dL_power_13 (by decide) ?_
        exact z_iret C hz hw rfl rfl (by show _ ≤ 2; omega) (by show _ ≤ 12; omega) dL_power_14
      · have hf := ie hf c1
        cases hf
abbrev rL_propose : Room := { frames := 8, cells := 4, slots := 21, locals := 139 }
abbrev hhL_propose : List (Nat × Nat × Nat × Nat) := [(0, 14, 17, 13), (0, 14, 21, 24), (0, 14, 25, 15)]
theorem w733 : Cond.codeWith yL_propose cL_propose 7 (some .int) hhL_propose ∈ GW := gw_t (List.mem_of_getElem? (i := 733) (by decide +kernel)) (by decide +kernel)
set_option maxRecDepth 100000 in
set_option maxHeartbeats 4000000 in
theorem mL_propose {D : va_G} {cy : Nat → ClassId} {s0 : Nat} {l : Launch} {x0 : Nat} {x1 : Int32} {x2 : Int32} {x3 : Int32} {x4 : Int32} {x5 : Nat} {h : Hp} {v : Int32} {h1 : Hp} (hst : l.stackTraces = false) (hf : fL_propose x0 x1 x2 x3 x4 x5 h = some (v, h1)) : WT D cy s0 l yL_propose cL_propose 7 (some .int) hhL_propose rL_propose [.ref x0, .int x1, .int x2, .int x3, .int x4, .ref x5] h (some (.int v)) h1 := by
  refine WT.of (by decide +kernel) (Nat.le_of_ble_eq_true rfl) ?_
  intro p e s m below meth c H locs ls C hT hE hw hl
  have hx := C.1
  have hb := C.2.1
  unfold fL_propose at hf
  have hcc : (0 : Nat) ≤ 0 := Nat.le_refl 0
  obtain ⟨kb, hf⟩ := ig hf
  refine lv_aload hx hb dL_propose_0 (lv_at hl 5 rfl) ?_
  refine lv_iconst (v := (0 : Int32)) hx hb dL_propose_2 (by decide) ?_
  refine lv_aload_n hx hb dL_propose_3 rfl (lv_at hl 0 rfl) ?_
  refine lv_iload_n hx hb dL_propose_4 rfl (lv_at hl 1 rfl) ?_
  refine lv_iload_n hx hb dL_propose_5 rfl (lv_at hl 2 rfl) ?_
  refine lv_iload_n hx hb dL_propose_6 rfl (lv_at hl 3 rfl) ?_
  refine lv_iload hx hb dL_propose_7 (lv_at hl 4 rfl) ?_
  rcases obc hf with ⟨z1, h1, e1, hf⟩ | ⟨k1, h1, e1, hf⟩
  · refine x_ret (v := (some (.int z1))) rfl hw (x_runV C hT hw (mX9_propose hst e1) kXX9_propose ck9 rfl kb w735 w736 w737 ⟨Nat.le_of_ble_eq_true rfl, Nat.le_of_ble_eq_true rfl⟩ rfl hl.1 (rest := [.int (0 : Int32), .ref x5]) rfl (Nat.le_of_ble_eq_true rfl) dL_propose_9 (mc := 4) (ms := 21) rfl rfl ⟨by show _ + 4 ≤ 4; omega, by show _ + 21 ≤ 21; omega⟩) (fun H locs hw => ?_)
    refine W.eq (g2 := F0 m 12 ls [.int z1, .int (0 : Int32), .ref x5]) rfl ?_
    refine lv_i2l (v := (z1.toInt64)) hx hb dL_propose_12 rfl ?_
    obtain ⟨h2, e2, hf⟩ := ob hf
    refine r_last C hw e2 dL_propose_13 (fun H locs hw => ?_)
    refine lv_goto (tgt := 29) hx hb dL_propose_14 (by decide) ?_
    refine lv_iconst (v := (0 : Int32)) hx hb dL_propose_29 (by decide) ?_
    obtain ⟨rfl, rfl⟩ := sp hf
    exact z_iret C (Nat.le_refl _) hw rfl rfl (by show _ ≤ 4; omega) (by show _ ≤ 21; omega) dL_propose_30
  · by_cases c0 : k1 = 0
    · have hf := ip hf c0
      obtain ⟨rfl, rfl⟩ := sp hf
      subst c0
      refine x_back hw (x_runV C hT hw (mX9_propose hst e1) kXX9_propose ck9 rfl kb w735 w736 w737 ⟨Nat.le_of_ble_eq_true rfl, Nat.le_of_ble_eq_true rfl⟩ rfl hl.1 (rest := [.int (0 : Int32), .ref x5]) rfl (Nat.le_of_ble_eq_true rfl) dL_propose_9 (mc := 4) (ms := 21) rfl rfl ⟨by show _ + 4 ≤ 4; omega, by show _ + 21 ≤ 21; omega⟩) (fun v2 hv2 => inr_inl hv2) (fun k2 hk2 H locs q9 ce z hz hw g1 g2 g3 => ?_)
      obtain rfl := inr_inr hk2
      refine vx_catch C.2.2.2.1 [] (⟨0, 14, 17, 13⟩ : ExceptionTableEntry) [(⟨0, 14, 21, 24⟩ : ExceptionTableEntry), (⟨0, 14, 25, 15⟩ : ExceptionTableEntry)] (hE.trans rfl) (fun _ h9 => absurd h9 List.not_mem_nil) rfl (by decide) (C.2.2.2.2.1 _ w275) ((hT.2.2.2.1 (Cond.castable (ename 0) "java/lang/IndexOutOfBoundsException") (by decide)).use rfl) g1 g2 g3 ?_
      refine lv_astore (lv' := [(6, .ref q9), (0, .ref x0), (1, .int x1), (2, .int x2), (3, .int x3), (4, .int x4), (5, .ref x5)]) hx hb dL_propose_17 hl (by decide) rfl (fun ls hl => ?_)
      refine lv_iconst (v := (1 : Int32)) hx hb dL_propose_19 (by decide) ?_
      exact z_iret C hz hw rfl rfl (by show _ ≤ 4; omega) (by show _ ≤ 21; omega) dL_propose_20
    · have hf := ie hf c0
      by_cases c1 : k1 = 2
      · have hf := ip hf c1
        obtain ⟨rfl, rfl⟩ := sp hf
        subst c1
        refine x_back hw (x_runV C hT hw (mX9_propose hst e1) kXX9_propose ck9 rfl kb w735 w736 w737 ⟨Nat.le_of_ble_eq_true rfl, Nat.le_of_ble_eq_true rfl⟩ rfl hl.1 (rest := [.int (0 : Int32), .ref x5]) rfl (Nat.le_of_ble_eq_true rfl) dL_propose_9 (mc := 4) (ms := 21) rfl rfl ⟨by show _ + 4 ≤ 4; omega, by show _ + 21 ≤ 21; omega⟩) (fun v2 hv2 => inr_inl hv2) (fun k2 hk2 H locs q9 ce z hz hw g1 g2 g3 => ?_)
        obtain rfl := inr_inr hk2
        refine vx_catch C.2.2.2.1 [(⟨0, 14, 17, 13⟩ : ExceptionTableEntry)] (⟨0, 14, 21, 24⟩ : ExceptionTableEntry) [(⟨0, 14, 25, 15⟩ : ExceptionTableEntry)] (hE.trans rfl) (List.forall_mem_cons.mpr ⟨Or.inr ⟨by decide, _, C.2.2.2.2.1 _ w275, hT.2.2.2.2 (ename 2, "java/lang/IndexOutOfBoundsException") (by decide)⟩, fun _ h9 => absurd h9 List.not_mem_nil⟩) rfl (by decide) (C.2.2.2.2.1 _ w734) ((hT.2.2.2.1 (Cond.castable (ename 2) "java/lang/IllegalArgumentException") (by decide)).use rfl) g1 g2 g3 ?_
        refine lv_astore (lv' := [(6, .ref q9), (0, .ref x0), (1, .int x1), (2, .int x2), (3, .int x3), (4, .int x4), (5, .ref x5)]) hx hb dL_propose_21 hl (by decide) rfl (fun ls hl => ?_)
        refine lv_iconst (v := (2 : Int32)) hx hb dL_propose_23 (by decide) ?_
        exact z_iret C hz hw rfl rfl (by show _ ≤ 4; omega) (by show _ ≤ 21; omega) dL_propose_24
      · have hf := ie hf c1
        by_cases c2 : k1 = 1
        · have hf := ip hf c2
          obtain ⟨rfl, rfl⟩ := sp hf
          subst c2
          refine x_back hw (x_runV C hT hw (mX9_propose hst e1) kXX9_propose ck9 rfl kb w735 w736 w737 ⟨Nat.le_of_ble_eq_true rfl, Nat.le_of_ble_eq_true rfl⟩ rfl hl.1 (rest := [.int (0 : Int32), .ref x5]) rfl (Nat.le_of_ble_eq_true rfl) dL_propose_9 (mc := 4) (ms := 21) rfl rfl ⟨by show _ + 4 ≤ 4; omega, by show _ + 21 ≤ 21; omega⟩) (fun v2 hv2 => inr_inl hv2) (fun k2 hk2 H locs q9 ce z hz hw g1 g2 g3 => ?_)
          obtain rfl := inr_inr hk2
          refine vx_catch C.2.2.2.1 [(⟨0, 14, 17, 13⟩ : ExceptionTableEntry), (⟨0, 14, 21, 24⟩ : ExceptionTableEntry)] (⟨0, 14, 25, 15⟩ : ExceptionTableEntry) [] (hE.trans rfl) (List.forall_mem_cons.mpr ⟨Or.inr ⟨by decide, _, C.2.2.2.2.1 _ w275, hT.2.2.2.2 (ename 1, "java/lang/IndexOutOfBoundsException") (by decide)⟩, List.forall_mem_cons.mpr ⟨Or.inr ⟨by decide, _, C.2.2.2.2.1 _ w734, hT.2.2.2.2 (ename 1, "java/lang/IllegalArgumentException") (by decide)⟩, fun _ h9 => absurd h9 List.not_mem_nil⟩⟩) rfl (by decide) (C.2.2.2.2.1 _ w276) ((hT.2.2.2.1 (Cond.castable (ename 1) "java/lang/IllegalStateException") (by decide)).use rfl) g1 g2 g3 ?_
          refine lv_astore (lv' := [(6, .ref q9), (0, .ref x0), (1, .int x1), (2, .int x2), (3, .int x3), (4, .int x4), (5, .ref x5)]) hx hb dL_propose_25 hl (by decide) rfl (fun ls hl => ?_)
          refine lv_iconst (v := (3 : Int32)) hx hb dL_propose_27 (by decide) ?_
          exact z_iret C hz hw rfl rfl (by show _ ≤ 4; omega) (by show _ ≤ 21; omega) dL_propose_28
        · have hf := ie hf c2
          cases hf
abbrev rL_result : Room := { frames := 8, cells := 2, slots := 12, locals := 136 }
abbrev hhL_result : List (Nat × Nat × Nat × Nat) := [(0, 10, 13, 13), (0, 10, 17, 47)]
theorem w824 : Cond.codeWith yL_result cL_result 5 (some .int) hhL_result ∈ GW := gw_t (List.mem_of_getElem? (i := 824) (by decide +kernel)) (by decide +kernel)
set_option maxRecDepth 100000 in
set_option maxHeartbeats 4000000 in
theorem mL_result {D : va_G} {cy : Nat → ClassId} {s0 : Nat} {l : Launch} {x0 : Nat} {x1 : Int32} {x2 : Int32} {x3 : Nat} {h : Hp} {v : Int32} {h1 : Hp} (hst : l.stackTraces = false) (hf : fL_result x0 x1 x2 x3 h = some (v, h1)) : WT D cy s0 l yL_result cL_result 5 (some .int) hhL_result rL_result [.ref x0, .int x1, .int x2, .ref x3] h (some (.int v)) h1 := by
  refine WT.of (by decide +kernel) (Nat.le_of_ble_eq_true rfl) ?_
  intro p e s m below meth c H locs ls C hT hE hw hl
  have hx := C.1
  have hb := C.2.1
  unfold fL_result at hf
  have hcc : (0 : Nat) ≤ 0 := Nat.le_refl 0
  obtain ⟨kb, hf⟩ := ig hf
  refine lv_aload_n hx hb dL_result_0 rfl (lv_at hl 3 rfl) ?_
  refine lv_iconst (v := (0 : Int32)) hx hb dL_result_1 (by decide) ?_
  refine lv_aload_n hx hb dL_result_2 rfl (lv_at hl 0 rfl) ?_
  refine lv_iload_n hx hb dL_result_3 rfl (lv_at hl 1 rfl) ?_
  refine lv_iload_n hx hb dL_result_4 rfl (lv_at hl 2 rfl) ?_
  rcases obc hf with ⟨z1, h1, e1, hf⟩ | ⟨k1, h1, e1, hf⟩
  · refine x_ret (v := (some (.int z1))) rfl hw (x_runV C hT hw (mX9_result hst e1) kXX9_result ck9 rfl kb w826 w827 w828 ⟨Nat.le_of_ble_eq_true rfl, Nat.le_of_ble_eq_true rfl⟩ rfl hl.1 (rest := [.int (0 : Int32), .ref x3]) rfl (Nat.le_of_ble_eq_true rfl) dL_result_5 (mc := 2) (ms := 12) rfl rfl ⟨by show _ + 2 ≤ 2; omega, by show _ + 12 ≤ 12; omega⟩) (fun H locs hw => ?_)
    refine W.eq (g2 := F0 m 8 ls [.int z1, .int (0 : Int32), .ref x3]) rfl ?_
    refine lv_i2l (v := (z1.toInt64)) hx hb dL_result_8 rfl ?_
    obtain ⟨h2, e2, hf⟩ := ob hf
    refine r_last C hw e2 dL_result_9 (fun H locs hw => ?_)
    refine lv_goto (tgt := 21) hx hb dL_result_10 (by decide) ?_
    refine lv_iconst (v := (0 : Int32)) hx hb dL_result_21 (by decide) ?_
    obtain ⟨rfl, rfl⟩ := sp hf
    exact z_iret C (Nat.le_refl _) hw rfl rfl (by show _ ≤ 2; omega) (by show _ ≤ 12; omega) dL_result_22
  · by_cases c0 : k1 = 0
    · have hf := ip hf c0
      obtain ⟨rfl, rfl⟩ := sp hf
      subst c0
      refine x_back hw (x_runV C hT hw (mX9_result hst e1) kXX9_result ck9 rfl kb w826 w827 w828 ⟨Nat.le_of_ble_eq_true rfl, Nat.le_of_ble_eq_true rfl⟩ rfl hl.1 (rest := [.int (0 : Int32), .ref x3]) rfl (Nat.le_of_ble_eq_true rfl) dL_result_5 (mc := 2) (ms := 12) rfl rfl ⟨by show _ + 2 ≤ 2; omega, by show _ + 12 ≤ 12; omega⟩) (fun v2 hv2 => inr_inl hv2) (fun k2 hk2 H locs q9 ce z hz hw g1 g2 g3 => ?_)
      obtain rfl := inr_inr hk2
      refine vx_catch C.2.2.2.1 [] (⟨0, 10, 13, 13⟩ : ExceptionTableEntry) [(⟨0, 10, 17, 47⟩ : ExceptionTableEntry)] (hE.trans rfl) (fun _ h9 => absurd h9 List.not_mem_nil) rfl (by decide) (C.2.2.2.2.1 _ w275) ((hT.2.2.2.1 (Cond.castable (ename 0) "java/lang/IndexOutOfBoundsException") (by decide)).use rfl) g1 g2 g3 ?_
      refine lv_astore (lv' := [(4, .ref q9), (0, .ref x0), (1, .int x1), (2, .int x2), (3, .ref x3)]) hx hb dL_result_13 hl (by decide) rfl (fun ls hl => ?_)
      refine lv_iconst (v := (1 : Int32)) hx hb dL_result_15 (by decide) ?_
      exact z_iret C hz hw rfl rfl (by show _ ≤ 2; omega) (by show _ ≤ 12; omega) dL_result_16
    · have hf := ie hf c0
      by_cases c1 : k1 = 3
      · have hf := ip hf c1
        obtain ⟨rfl, rfl⟩ := sp hf
        subst c1
        refine x_back hw (x_runV C hT hw (mX9_result hst e1) kXX9_result ck9 rfl kb w826 w827 w828 ⟨Nat.le_of_ble_eq_true rfl, Nat.le_of_ble_eq_true rfl⟩ rfl hl.1 (rest := [.int (0 : Int32), .ref x3]) rfl (Nat.le_of_ble_eq_true rfl) dL_result_5 (mc := 2) (ms := 12) rfl rfl ⟨by show _ + 2 ≤ 2; omega, by show _ + 12 ≤ 12; omega⟩) (fun v2 hv2 => inr_inl hv2) (fun k2 hk2 H locs q9 ce z hz hw g1 g2 g3 => ?_)
        obtain rfl := inr_inr hk2
        refine vx_catch C.2.2.2.1 [(⟨0, 10, 13, 13⟩ : ExceptionTableEntry)] (⟨0, 10, 17, 47⟩ : ExceptionTableEntry) [] (hE.trans rfl) (List.forall_mem_cons.mpr ⟨Or.inr ⟨by decide, _, C.2.2.2.2.1 _ w275, hT.2.2.2.2 (ename 3, "java/lang/IndexOutOfBoundsException") (by decide)⟩, fun _ h9 => absurd h9 List.not_mem_nil⟩) rfl (by decide) (C.2.2.2.2.1 _ w825) ((hT.2.2.2.1 (Cond.castable (ename 3) "java/util/NoSuchElementException") (by decide)).use rfl) g1 g2 g3 ?_
        refine lv_astore (lv' := [(4, .ref q9), (0, .ref x0), (1, .int x1), (2, .int x2), (3, .ref x3)]) hx hb dL_result_17 hl (by decide) rfl (fun ls hl => ?_)
        refine lv_iconst (v := (2 : Int32)) hx hb dL_result_19 (by decide) ?_
        exact z_iret C hz hw rfl rfl (by show _ ≤ 2; omega) (by show _ ≤ 12; omega) dL_result_20
      · have hf := ie hf c1
        cases hf
abbrev rL_shrink : Room := { frames := 8, cells := 12, slots := 886, locals := 135 }
abbrev hhL_shrink : List (Nat × Nat × Nat × Nat) := [(0, 9, 12, 13), (0, 9, 15, 15)]
theorem w778 : Cond.codeWith yL_shrink cL_shrink 4 (some .int) hhL_shrink ∈ GW := gw_t (List.mem_of_getElem? (i := 778) (by decide +kernel)) (by decide +kernel)
set_option maxRecDepth 100000 in
set_option maxHeartbeats 4000000 in
theorem mL_shrink {D : va_G} {cy : Nat → ClassId} {s0 : Nat} {l : Launch} {x0 : Nat} {x1 : Int32} {x2 : Nat} {h : Hp} {v : Int32} {h1 : Hp} (hst : l.stackTraces = false) (hf : fL_shrink x0 x1 x2 h = some (v, h1)) : WT D cy s0 l yL_shrink cL_shrink 4 (some .int) hhL_shrink rL_shrink [.ref x0, .int x1, .ref x2] h (some (.int v)) h1 := by
  refine WT.of (by decide +kernel) (Nat.le_of_ble_eq_true rfl) ?_
  intro p e s m below meth c H locs ls C hT hE hw hl
  have hx := C.1
  have hb := C.2.1
  unfold fL_shrink at hf
  have hcc : (0 : Nat) ≤ 0 := Nat.le_refl 0
  obtain ⟨kb, hf⟩ := ig hf
  refine lv_aload_n hx hb dL_shrink_0 rfl (lv_at hl 2 rfl) ?_
  refine lv_iconst (v := (0 : Int32)) hx hb dL_shrink_1 (by decide) ?_
  refine lv_aload_n hx hb dL_shrink_2 rfl (lv_at hl 0 rfl) ?_
  refine lv_iload_n hx hb dL_shrink_3 rfl (lv_at hl 1 rfl) ?_
  rcases obc hf with ⟨z1, h1, e1, hf⟩ | ⟨k1, h1, e1, hf⟩
  · refine x_ret (v := (some (.int z1))) rfl hw (x_runV C hT hw (mX9_shrink hst e1) kXX9_shrink ck9 rfl kb w779 w780 w781 ⟨Nat.le_of_ble_eq_true rfl, Nat.le_of_ble_eq_true rfl⟩ rfl hl.1 (rest := [.int (0 : Int32), .ref x2]) rfl (Nat.le_of_ble_eq_true rfl) dL_shrink_4 (mc := 12) (ms := 886) rfl rfl ⟨by show _ + 12 ≤ 12; omega, by show _ + 886 ≤ 886; omega⟩) (fun H locs hw => ?_)
    refine W.eq (g2 := F0 m 7 ls [.int z1, .int (0 : Int32), .ref x2]) rfl ?_
    refine lv_i2l (v := (z1.toInt64)) hx hb dL_shrink_7 rfl ?_
    obtain ⟨h2, e2, hf⟩ := ob hf
    refine r_last C hw e2 dL_shrink_8 (fun H locs hw => ?_)
    refine lv_goto (tgt := 18) hx hb dL_shrink_9 (by decide) ?_
    refine lv_iconst (v := (0 : Int32)) hx hb dL_shrink_18 (by decide) ?_
    obtain ⟨rfl, rfl⟩ := sp hf
    exact z_iret C (Nat.le_refl _) hw rfl rfl (by show _ ≤ 12; omega) (by show _ ≤ 886; omega) dL_shrink_19
  · by_cases c0 : k1 = 0
    · have hf := ip hf c0
      obtain ⟨rfl, rfl⟩ := sp hf
      subst c0
      refine x_back hw (x_runV C hT hw (mX9_shrink hst e1) kXX9_shrink ck9 rfl kb w779 w780 w781 ⟨Nat.le_of_ble_eq_true rfl, Nat.le_of_ble_eq_true rfl⟩ rfl hl.1 (rest := [.int (0 : Int32), .ref x2]) rfl (Nat.le_of_ble_eq_true rfl) dL_shrink_4 (mc := 12) (ms := 886) rfl rfl ⟨by show _ + 12 ≤ 12; omega, by show _ + 886 ≤ 886; omega⟩) (fun v2 hv2 => inr_inl hv2) (fun k2 hk2 H locs q9 ce z hz hw g1 g2 g3 => ?_)
      obtain rfl := inr_inr hk2
      refine vx_catch C.2.2.2.1 [] (⟨0, 9, 12, 13⟩ : ExceptionTableEntry) [(⟨0, 9, 15, 15⟩ : ExceptionTableEntry)] (hE.trans rfl) (fun _ h9 => absurd h9 List.not_mem_nil) rfl (by decide) (C.2.2.2.2.1 _ w275) ((hT.2.2.2.1 (Cond.castable (ename 0) "java/lang/IndexOutOfBoundsException") (by decide)).use rfl) g1 g2 g3 ?_
      refine lv_astore_n (lv' := [(3, .ref q9), (0, .ref x0), (1, .int x1), (2, .ref x2)]) hx hb dL_shrink_12 rfl hl (by decide) rfl (fun ls hl => ?_)
      refine lv_iconst (v := (1 : Int32)) hx hb dL_shrink_13 (by decide) ?_
      exact z_iret C hz hw rfl rfl (by show _ ≤ 12; omega) (by show _ ≤ 886; omega) dL_shrink_14
    · have hf := ie hf c0
      by_cases c1 : k1 = 1
      · have hf := ip hf c1
        obtain ⟨rfl, rfl⟩ := sp hf
        subst c1
        refine x_back hw (x_runV C hT hw (mX9_shrink hst e1) kXX9_shrink ck9 rfl kb w779 w780 w781 ⟨Nat.le_of_ble_eq_true rfl, Nat.le_of_ble_eq_true rfl⟩ rfl hl.1 (rest := [.int (0 : Int32), .ref x2]) rfl (Nat.le_of_ble_eq_true rfl) dL_shrink_4 (mc := 12) (ms := 886) rfl rfl ⟨by show _ + 12 ≤ 12; omega, by show _ + 886 ≤ 886; omega⟩) (fun v2 hv2 => inr_inl hv2) (fun k2 hk2 H locs q9 ce z hz hw g1 g2 g3 => ?_)
        obtain rfl := inr_inr hk2
        refine vx_catch C.2.2.2.1 [(⟨0, 9, 12, 13⟩ : ExceptionTableEntry)] (⟨0, 9, 15, 15⟩ : ExceptionTableEntry) [] (hE.trans rfl) (List.forall_mem_cons.mpr ⟨Or.inr ⟨by decide, _, C.2.2.2.2.1 _ w275, hT.2.2.2.2 (ename 1, "java/lang/IndexOutOfBoundsException") (by decide)⟩, fun _ h9 => absurd h9 List.not_mem_nil⟩) rfl (by decide) (C.2.2.2.2.1 _ w276) ((hT.2.2.2.1 (Cond.castable (ename 1) "java/lang/IllegalStateException") (by decide)).use rfl) g1 g2 g3 ?_
        refine lv_astore_n (lv' := [(3, .ref q9), (0, .ref x0), (1, .int x1), (2, .ref x2)]) hx hb dL_shrink_15 rfl hl (by decide) rfl (fun ls hl => ?_)
        refine lv_iconst (v := (2 : Int32)) hx hb dL_shrink_16 (by decide) ?_
        exact z_iret C hz hw rfl rfl (by show _ ≤ 12; omega) (by show _ ≤ 886; omega) dL_shrink_17
      · have hf := ie hf c1
        cases hf
abbrev rL_start : Room := { frames := 8, cells := 2, slots := 12, locals := 135 }
abbrev hhL_start : List (Nat × Nat × Nat × Nat) := [(0, 9, 12, 13), (0, 9, 15, 15)]
theorem w804 : Cond.codeWith yL_start cL_start 4 (some .int) hhL_start ∈ GW := gw_t (List.mem_of_getElem? (i := 804) (by decide +kernel)) (by decide +kernel)
set_option maxRecDepth 100000 in
set_option maxHeartbeats 4000000 in
theorem mL_start {D : va_G} {cy : Nat → ClassId} {s0 : Nat} {l : Launch} {x0 : Nat} {x1 : Int32} {x2 : Nat} {h : Hp} {v : Int32} {h1 : Hp} (hst : l.stackTraces = false) (hf : fL_start x0 x1 x2 h = some (v, h1)) : WT D cy s0 l yL_start cL_start 4 (some .int) hhL_start rL_start [.ref x0, .int x1, .ref x2] h (some (.int v)) h1 := by
  refine WT.of (by decide +kernel) (Nat.le_of_ble_eq_true rfl) ?_
  intro p e s m below meth c H locs ls C hT hE hw hl
  have hx := C.1
  have hb := C.2.1
  unfold fL_start at hf
  have hcc : (0 : Nat) ≤ 0 := Nat.le_refl 0
  obtain ⟨kb, hf⟩ := ig hf
  refine lv_aload_n hx hb dL_start_0 rfl (lv_at hl 2 rfl) ?_
  refine lv_iconst (v := (0 : Int32)) hx hb dL_start_1 (by decide) ?_
  refine lv_aload_n hx hb dL_start_2 rfl (lv_at hl 0 rfl) ?_
  refine lv_iload_n hx hb dL_start_3 rfl (lv_at hl 1 rfl) ?_
  rcases obc hf with ⟨z1, h1, e1, hf⟩ | ⟨k1, h1, e1, hf⟩
  · refine x_ret (v := (some (.int z1))) rfl hw (x_runV C hT hw (mX9_start hst e1) kXX9_start ck9 rfl kb w805 w806 w807 ⟨Nat.le_of_ble_eq_true rfl, Nat.le_of_ble_eq_true rfl⟩ rfl hl.1 (rest := [.int (0 : Int32), .ref x2]) rfl (Nat.le_of_ble_eq_true rfl) dL_start_4 (mc := 2) (ms := 12) rfl rfl ⟨by show _ + 2 ≤ 2; omega, by show _ + 12 ≤ 12; omega⟩) (fun H locs hw => ?_)
    refine W.eq (g2 := F0 m 7 ls [.int z1, .int (0 : Int32), .ref x2]) rfl ?_
    refine lv_i2l (v := (z1.toInt64)) hx hb dL_start_7 rfl ?_
    obtain ⟨h2, e2, hf⟩ := ob hf
    refine r_last C hw e2 dL_start_8 (fun H locs hw => ?_)
    refine lv_goto (tgt := 18) hx hb dL_start_9 (by decide) ?_
    refine lv_iconst (v := (0 : Int32)) hx hb dL_start_18 (by decide) ?_
    obtain ⟨rfl, rfl⟩ := sp hf
    exact z_iret C (Nat.le_refl _) hw rfl rfl (by show _ ≤ 2; omega) (by show _ ≤ 12; omega) dL_start_19
  · by_cases c0 : k1 = 0
    · have hf := ip hf c0
      obtain ⟨rfl, rfl⟩ := sp hf
      subst c0
      refine x_back hw (x_runV C hT hw (mX9_start hst e1) kXX9_start ck9 rfl kb w805 w806 w807 ⟨Nat.le_of_ble_eq_true rfl, Nat.le_of_ble_eq_true rfl⟩ rfl hl.1 (rest := [.int (0 : Int32), .ref x2]) rfl (Nat.le_of_ble_eq_true rfl) dL_start_4 (mc := 2) (ms := 12) rfl rfl ⟨by show _ + 2 ≤ 2; omega, by show _ + 12 ≤ 12; omega⟩) (fun v2 hv2 => inr_inl hv2) (fun k2 hk2 H locs q9 ce z hz hw g1 g2 g3 => ?_)
      obtain rfl := inr_inr hk2
      refine vx_catch C.2.2.2.1 [] (⟨0, 9, 12, 13⟩ : ExceptionTableEntry) [(⟨0, 9, 15, 15⟩ : ExceptionTableEntry)] (hE.trans rfl) (fun _ h9 => absurd h9 List.not_mem_nil) rfl (by decide) (C.2.2.2.2.1 _ w275) ((hT.2.2.2.1 (Cond.castable (ename 0) "java/lang/IndexOutOfBoundsException") (by decide)).use rfl) g1 g2 g3 ?_
      refine lv_astore_n (lv' := [(3, .ref q9), (0, .ref x0), (1, .int x1), (2, .ref x2)]) hx hb dL_start_12 rfl hl (by decide) rfl (fun ls hl => ?_)
      refine lv_iconst (v := (1 : Int32)) hx hb dL_start_13 (by decide) ?_
      exact z_iret C hz hw rfl rfl (by show _ ≤ 2; omega) (by show _ ≤ 12; omega) dL_start_14
    · have hf := ie hf c0
      by_cases c1 : k1 = 1
      · have hf := ip hf c1
        obtain ⟨rfl, rfl⟩ := sp hf
        subst c1
        refine x_back hw (x_runV C hT hw (mX9_start hst e1) kXX9_start ck9 rfl kb w805 w806 w807 ⟨Nat.le_of_ble_eq_true rfl, Nat.le_of_ble_eq_true rfl⟩ rfl hl.1 (rest := [.int (0 : Int32), .ref x2]) rfl (Nat.le_of_ble_eq_true rfl) dL_start_4 (mc := 2) (ms := 12) rfl rfl ⟨by show _ + 2 ≤ 2; omega, by show _ + 12 ≤ 12; omega⟩) (fun v2 hv2 => inr_inl hv2) (fun k2 hk2 H locs q9 ce z hz hw g1 g2 g3 => ?_)
        obtain rfl := inr_inr hk2
        refine vx_catch C.2.2.2.1 [(⟨0, 9, 12, 13⟩ : ExceptionTableEntry)] (⟨0, 9, 15, 15⟩ : ExceptionTableEntry) [] (hE.trans rfl) (List.forall_mem_cons.mpr ⟨Or.inr ⟨by decide, _, C.2.2.2.2.1 _ w275, hT.2.2.2.2 (ename 1, "java/lang/IndexOutOfBoundsException") (by decide)⟩, fun _ h9 => absurd h9 List.not_mem_nil⟩) rfl (by decide) (C.2.2.2.2.1 _ w276) ((hT.2.2.2.1 (Cond.castable (ename 1) "java/lang/IllegalStateException") (by decide)).use rfl) g1 g2 g3 ?_
        refine lv_astore_n (lv' := [(3, .ref q9), (0, .ref x0), (1, .int x1), (2, .ref x2)]) hx hb dL_start_15 rfl hl (by decide) rfl (fun ls hl => ?_)
        refine lv_iconst (v := (2 : Int32)) hx hb dL_start_16 (by decide) ?_
        exact z_iret C hz hw rfl rfl (by show _ ≤ 2; omega) (by show _ ≤ 12; omega) dL_start_17
      · have hf := ie hf c1
        cases hf
