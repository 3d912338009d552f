theorem lg_cmp_self (x : Int64) : lg_cmp x x = 0 := by simp [lg_cmp]
set_option maxRecDepth 100000 in
set_option maxHeartbeats 4000000 in
theorem law_c0 {D : va_G} {cy : Nat → ClassId} {s0 : Nat} {p : Program} {l : Launch} {e : Env} {s : State} {m : MethodId} {args : Array Value} {below : List Frame} {meth : Method} {c : Code} {Q : State → Prop} (C : CX D cy s0 p s m args meth c cL_law 8 RL (some .boolean)) (hT : TS s0 s) (hst : l.stackTraces = false) {b L : Nat} {xs : Nat → Int32} (hX : va_X b L xs s s.heap) (hbl : b < s.heap.size) (hbA : ¬ s0 ≤ b) {bx bm bo : Nat} {J : Hp → Prop} {x4 : Int32} (i1 : vp_in (x4 + (1 : Int32)) L) (i2 : vp_in (x4 + (2 : Int32)) L) (i3 : vp_in (x4 + (3 : Int32)) L) (i4 : vp_in (x4 + (4 : Int32)) L) {h : Hp} {H : Heap} {locs : List Loc} {ls : Array Slot} {cells slots : Nat} (hc : cells + 22 ≤ 600128) (hs : slots + 886 ≤ 7301098) (OK : OKi J bm bo h (fL_expire bx (xs (x4 + (1 : Int32)).toNatClampNeg) bo) (fX10_expire bm (xs (x4 + (1 : Int32)).toNatClampNeg))) (hw : WS D cy s0 s h H locs) (hl : lv_has ls 8 [(0, .ref b), (1, .ref bx), (2, .ref bm), (3, .ref bo), (4, .int x4)])
    (IH : ∀ (h : Hp) (H : Heap) (locs : List Loc) (ls : Array Slot), J h → WS D cy s0 s h H locs → lv_has ls 8 [(0, .ref b), (1, .ref bx), (2, .ref bm), (3, .ref bo), (4, .int x4)] → W p l e room_1 s m args below meth c H locs (cells + 22) (slots + 886) Q (F0 m 1235 ls [])) : W p l e room_1 s m args below meth c H locs cells slots Q (F0 m 128 ls []) := by
  have hx := C.1
  have hb := C.2.1
  obtain ⟨k, h1, ew, OK⟩ := OK
  refine lv_aload_n hx hb dL_law_128 rfl (lv_at hl 1 rfl) ?_
  refine lv_aload_n hx hb dL_law_129 rfl (lv_at hl 0 rfl) ?_
  refine lv_iload hx hb dL_law_130 (lv_at hl 4 rfl) ?_
  refine lv_iconst (v := (1 : Int32)) hx hb dL_law_132 (by decide) ?_
  refine lv_iadd hx hb dL_law_133 ?_
  refine va_sld hx hb hX hbl hbA hw.2.1 i1 dL_law_134 ?_
  refine lv_aload_n hx hb dL_law_135 rfl (lv_at hl 3 rfl) ?_
  refine r_callW (n := 3) C hT hw (mL_expire hst ew) w274 w0 (by decide +kernel) w272 w273 ⟨Nat.le_of_ble_eq_true rfl, Nat.le_of_ble_eq_true rfl⟩ rfl hl.1 (rest := []) rfl (Nat.le_of_ble_eq_true rfl) dL_law_136 (mc := 10) (ms := 87) rfl rfl ⟨by show _ + 10 ≤ 600128; omega, by show _ + 87 ≤ 7301098; omega⟩ (fun z hz H locs hw => ?_)
  obtain ⟨kb1, b1, h2, em, kb2, h3, et, ho, hJ⟩ := OK z hz
  refine W.eq (g2 := F0 m 139 ls [.int k]) rfl ?_
  refine lv_istore (lv' := [(5, .int k), (0, .ref b), (1, .ref bx), (2, .ref bm), (3, .ref bo), (4, .int x4)]) hx hb dL_law_139 hl (by decide) rfl (fun ls hl => ?_)
  refine lv_aload_n hx hb dL_law_141 rfl (lv_at hl 3 rfl) ?_
  refine lv_aload_n hx hb dL_law_142 rfl (lv_at hl 1 rfl) ?_
  refine lv_iload hx hb dL_law_143 (lv_at hl 5 rfl) ?_
  refine lv_iconst (v := (1 : Int32)) hx hb dL_law_145 (by decide) ?_
  refine lv_iadd hx hb dL_law_146 ?_
  refine va_sld hx hb hX hbl hbA hw.2.1 i1 dL_law_147 ?_
  refine r_callV C hw (mX10_expire em) kXX10_expire ck10 rfl kb1 w1125 w1126 w1127 ⟨Nat.le_of_ble_eq_true rfl, Nat.le_of_ble_eq_true rfl⟩ rfl hl.1 (rest := []) rfl (Nat.le_of_ble_eq_true rfl) dL_law_148 (mc := 0) (ms := 0) rfl rfl ⟨by show _ + 0 ≤ 600128; omega, by show _ + 0 ≤ 7301098; omega⟩ (fun H locs hw => ?_)
  refine W.eq (g2 := F0 m 151 ls [.int b1]) rfl ?_
  refine lv_istore (lv' := [(6, .int b1), (5, .int k), (0, .ref b), (1, .ref bx), (2, .ref bm), (3, .ref bo), (4, .int x4)]) hx hb dL_law_151 hl (by decide) rfl (fun ls hl => ?_)
  refine lv_aload_n hx hb dL_law_153 rfl (lv_at hl 4 rfl) ?_
  refine r_callV C hw (mX10_thrown et) kXX10_thrown ck10 rfl kb2 w1121 w1122 w1123 ⟨Nat.le_of_ble_eq_true rfl, Nat.le_of_ble_eq_true rfl⟩ rfl hl.1 (rest := []) rfl (Nat.le_of_ble_eq_true rfl) dL_law_154 (mc := 0) (ms := 0) rfl rfl ⟨by show _ + 0 ≤ 600128; omega, by show _ + 0 ≤ 7301098; omega⟩ (fun H locs hw => ?_)
  refine W.eq (g2 := F0 m 157 ls [.int k]) rfl ?_
  refine lv_iload hx hb dL_law_157 (lv_at hl 1 rfl) ?_
  refine lv_icmp_eq (tgt := 164) hx hb dL_law_159 (by decide) (fun c9 => ?_) (fun c9 => absurd rfl c9)
  refine lv_iload hx hb dL_law_164 (lv_at hl 1 rfl) ?_
  refine lv_if_ne (tgt := 181) hx hb dL_law_166 (by decide) (fun c1 => ?_) (fun c1 => ?_)
  · refine lv_goto (tgt := 1235) hx hb dL_law_181 (by decide) ?_
    exact W.widen (k := cells + 22) (n := slots + 886) (by omega) (by omega) (IH _ _ _ _ hJ hw (lv_sub hl [2, 3, 4, 5, 6] rfl))
  · refine lv_aload_n hx hb dL_law_169 rfl (lv_at hl 5 rfl) ?_
    refine lv_iconst (v := (0 : Int32)) hx hb dL_law_170 (by decide) ?_
    refine r_lald C hw (ho c1) dL_law_171 ?_
    refine lv_iload hx hb dL_law_172 (lv_at hl 0 rfl) ?_
    refine lv_i2l (v := (b1.toInt64)) hx hb dL_law_174 rfl ?_
    refine W.lcmp hx hb dL_law_175 ?_
    refine lv_if_eq (tgt := 181) hx hb dL_law_176 (by decide) (fun c2 => ?_) (fun c2 => absurd (lg_cmp_self _) c2)
    refine lv_goto (tgt := 1235) hx hb dL_law_181 (by decide) ?_
    exact W.widen (k := cells + 22) (n := slots + 886) (by omega) (by omega) (IH _ _ _ _ hJ hw (lv_sub hl [2, 3, 4, 5, 6] rfl))
set_option maxRecDepth 100000 in
set_option maxHeartbeats 4000000 in
theorem law_c1 {D : va_G} {cy : Nat → ClassId} {s0 : Nat} {p : Program} {l : Launch} {e : Env} {s : State} {m : MethodId} {args : Array Value} {below : List Frame} {meth : Method} {c : Code} {Q : State → Prop} (C : CX D cy s0 p s m args meth c cL_law 8 RL (some .boolean)) (hT : TS s0 s) (hst : l.stackTraces = false) {b L : Nat} {xs : Nat → Int32} (hX : va_X b L xs s s.heap) (hbl : b < s.heap.size) (hbA : ¬ s0 ≤ b) {bx bm bo : Nat} {J : Hp → Prop} {x4 : Int32} (i1 : vp_in (x4 + (1 : Int32)) L) (i2 : vp_in (x4 + (2 : Int32)) L) (i3 : vp_in (x4 + (3 : Int32)) L) (i4 : vp_in (x4 + (4 : Int32)) L) {h : Hp} {H : Heap} {locs : List Loc} {ls : Array Slot} {cells slots : Nat} (hc : cells + 22 ≤ 600128) (hs : slots + 886 ≤ 7301098) (OK : OKi J bm bo h (fL_deliver bx (xs (x4 + (1 : Int32)).toNatClampNeg) bo) (fX10_deliver bm (xs (x4 + (1 : Int32)).toNatClampNeg))) (hw : WS D cy s0 s h H locs) (hl : lv_has ls 8 [(0, .ref b), (1, .ref bx), (2, .ref bm), (3, .ref bo), (4, .int x4)])
    (IH : ∀ (h : Hp) (H : Heap) (locs : List Loc) (ls : Array Slot), J h → WS D cy s0 s h H locs → lv_has ls 8 [(0, .ref b), (1, .ref bx), (2, .ref bm), (3, .ref bo), (4, .int x4)] → W p l e room_1 s m args below meth c H locs (cells + 22) (slots + 886) Q (F0 m 1235 ls [])) : W p l e room_1 s m args below meth c H locs cells slots Q (F0 m 184 ls []) := by
  have hx := C.1
  have hb := C.2.1
  obtain ⟨k, h1, ew, OK⟩ := OK
  refine lv_aload_n hx hb dL_law_184 rfl (lv_at hl 1 rfl) ?_
  refine lv_aload_n hx hb dL_law_185 rfl (lv_at hl 0 rfl) ?_
  refine lv_iload hx hb dL_law_186 (lv_at hl 4 rfl) ?_
  refine lv_iconst (v := (1 : Int32)) hx hb dL_law_188 (by decide) ?_
  refine lv_iadd hx hb dL_law_189 ?_
  refine va_sld hx hb hX hbl hbA hw.2.1 i1 dL_law_190 ?_
  refine lv_aload_n hx hb dL_law_191 rfl (lv_at hl 3 rfl) ?_
  refine r_callW (n := 3) C hT hw (mL_deliver hst ew) w447 w0 (by decide +kernel) w445 w446 ⟨Nat.le_of_ble_eq_true rfl, Nat.le_of_ble_eq_true rfl⟩ rfl hl.1 (rest := []) rfl (Nat.le_of_ble_eq_true rfl) dL_law_192 (mc := 22) (ms := 138) rfl rfl ⟨by show _ + 22 ≤ 600128; omega, by show _ + 138 ≤ 7301098; omega⟩ (fun z hz H locs hw => ?_)
  obtain ⟨kb1, b1, h2, em, kb2, h3, et, ho, hJ⟩ := OK z hz
  refine W.eq (g2 := F0 m 195 ls [.int k]) rfl ?_
  refine lv_istore (lv' := [(5, .int k), (0, .ref b), (1, .ref bx), (2, .ref bm), (3, .ref bo), (4, .int x4)]) hx hb dL_law_195 hl (by decide) rfl (fun ls hl => ?_)
  refine lv_aload_n hx hb dL_law_197 rfl (lv_at hl 3 rfl) ?_
  refine lv_aload_n hx hb dL_law_198 rfl (lv_at hl 1 rfl) ?_
  refine lv_iload hx hb dL_law_199 (lv_at hl 5 rfl) ?_
  refine lv_iconst (v := (1 : Int32)) hx hb dL_law_201 (by decide) ?_
  refine lv_iadd hx hb dL_law_202 ?_
  refine va_sld hx hb hX hbl hbA hw.2.1 i1 dL_law_203 ?_
  refine r_callV C hw (mX10_deliver em) kXX10_deliver ck10 rfl kb1 w1156 w1157 w1158 ⟨Nat.le_of_ble_eq_true rfl, Nat.le_of_ble_eq_true rfl⟩ rfl hl.1 (rest := []) rfl (Nat.le_of_ble_eq_true rfl) dL_law_204 (mc := 0) (ms := 0) rfl rfl ⟨by show _ + 0 ≤ 600128; omega, by show _ + 0 ≤ 7301098; omega⟩ (fun H locs hw => ?_)
  refine W.eq (g2 := F0 m 207 ls [.int b1]) rfl ?_
  refine lv_istore (lv' := [(6, .int b1), (5, .int k), (0, .ref b), (1, .ref bx), (2, .ref bm), (3, .ref bo), (4, .int x4)]) hx hb dL_law_207 hl (by decide) rfl (fun ls hl => ?_)
  refine lv_aload_n hx hb dL_law_209 rfl (lv_at hl 4 rfl) ?_
  refine r_callV C hw (mX10_thrown et) kXX10_thrown ck10 rfl kb2 w1121 w1122 w1123 ⟨Nat.le_of_ble_eq_true rfl, Nat.le_of_ble_eq_true rfl⟩ rfl hl.1 (rest := []) rfl (Nat.le_of_ble_eq_true rfl) dL_law_210 (mc := 0) (ms := 0) rfl rfl ⟨by show _ + 0 ≤ 600128; omega, by show _ + 0 ≤ 7301098; omega⟩ (fun H locs hw => ?_)
  refine W.eq (g2 := F0 m 213 ls [.int k]) rfl ?_
  refine lv_iload hx hb dL_law_213 (lv_at hl 1 rfl) ?_
  refine lv_icmp_eq (tgt := 220) hx hb dL_law_215 (by decide) (fun c9 => ?_) (fun c9 => absurd rfl c9)
  refine lv_iload hx hb dL_law_220 (lv_at hl 1 rfl) ?_
  refine lv_if_ne (tgt := 237) hx hb dL_law_222 (by decide) (fun c1 => ?_) (fun c1 => ?_)
  · refine lv_goto (tgt := 1235) hx hb dL_law_237 (by decide) ?_
    exact W.widen (k := cells + 22) (n := slots + 886) (by omega) (by omega) (IH _ _ _ _ hJ hw (lv_sub hl [2, 3, 4, 5, 6] rfl))
  · refine lv_aload_n hx hb dL_law_225 rfl (lv_at hl 5 rfl) ?_
    refine lv_iconst (v := (0 : Int32)) hx hb dL_law_226 (by decide) ?_
    refine r_lald C hw (ho c1) dL_law_227 ?_
    refine lv_iload hx hb dL_law_228 (lv_at hl 0 rfl) ?_
    refine lv_i2l (v := (b1.toInt64)) hx hb dL_law_230 rfl ?_
    refine W.lcmp hx hb dL_law_231 ?_
    refine lv_if_eq (tgt := 237) hx hb dL_law_232 (by decide) (fun c2 => ?_) (fun c2 => absurd (lg_cmp_self _) c2)
    refine lv_goto (tgt := 1235) hx hb dL_law_237 (by decide) ?_
    exact W.widen (k := cells + 22) (n := slots + 886) (by omega) (by omega) (IH _ _ _ _ hJ hw (lv_sub hl [2, 3, 4, 5, 6] rfl))
set_option maxRecDepth 100000 in
set_option maxHeartbeats 4000000 in
theorem law_c2 {D : va_G} {cy : Nat → ClassId} {s0 : Nat} {p : Program} {l : Launch} {e : Env} {s : State} {m : MethodId} {args : Array Value} {below : List Frame} {meth : Method} {c : Code} {Q : State → Prop} (C : CX D cy s0 p s m args meth c cL_law 8 RL (some .boolean)) (hT : TS s0 s) (hst : l.stackTraces = false) {b L : Nat} {xs : Nat → Int32} (hX : va_X b L xs s s.heap) (hbl : b < s.heap.size) (hbA : ¬ s0 ≤ b) {bx bm bo : Nat} {J : Hp → Prop} {x4 : Int32} (i1 : vp_in (x4 + (1 : Int32)) L) (i2 : vp_in (x4 + (2 : Int32)) L) (i3 : vp_in (x4 + (3 : Int32)) L) (i4 : vp_in (x4 + (4 : Int32)) L) {h : Hp} {H : Heap} {locs : List Loc} {ls : Array Slot} {cells slots : Nat} (hc : cells + 22 ≤ 600128) (hs : slots + 886 ≤ 7301098) (OK : OKm J bx bm h (fX9_more bx (xs (x4 + (1 : Int32)).toNatClampNeg) (xs (x4 + (2 : Int32)).toNatClampNeg) (xs (x4 + (3 : Int32)).toNatClampNeg) (xs (x4 + (4 : Int32)).toNatClampNeg)) (fX10_more bm (xs (x4 + (1 : Int32)).toNatClampNeg) (xs (x4 + (2 : Int32)).toNatClampNeg) (xs (x4 + (3 : Int32)).toNatClampNeg) (xs (x4 + (4 : Int32)).toNatClampNeg))) (hw : WS D cy s0 s h H locs) (hl : lv_has ls 8 [(0, .ref b), (1, .ref bx), (2, .ref bm), (3, .ref bo), (4, .int x4)])
    (IH : ∀ (h : Hp) (H : Heap) (locs : List Loc) (ls : Array Slot), J h → WS D cy s0 s h H locs → lv_has ls 8 [(0, .ref b), (1, .ref bx), (2, .ref bm), (3, .ref bo), (4, .int x4)] → W p l e room_1 s m args below meth c H locs (cells + 22) (slots + 886) Q (F0 m 1235 ls [])) : W p l e room_1 s m args below meth c H locs cells slots Q (F0 m 240 ls []) := by
  have hx := C.1
  have hb := C.2.1
  obtain ⟨kb0, h1, ew, kb1, h2, em, hJ⟩ := OK
  refine lv_aload_n hx hb dL_law_240 rfl (lv_at hl 1 rfl) ?_
  refine lv_aload_n hx hb dL_law_241 rfl (lv_at hl 0 rfl) ?_
  refine lv_iload hx hb dL_law_242 (lv_at hl 4 rfl) ?_
  refine lv_iconst (v := (1 : Int32)) hx hb dL_law_244 (by decide) ?_
  refine lv_iadd hx hb dL_law_245 ?_
  refine va_sld hx hb hX hbl hbA hw.2.1 i1 dL_law_246 ?_
  refine lv_aload_n hx hb dL_law_247 rfl (lv_at hl 0 rfl) ?_
  refine lv_iload hx hb dL_law_248 (lv_at hl 4 rfl) ?_
  refine lv_iconst (v := (2 : Int32)) hx hb dL_law_250 (by decide) ?_
  refine lv_iadd hx hb dL_law_251 ?_
  refine va_sld hx hb hX hbl hbA hw.2.1 i2 dL_law_252 ?_
  refine lv_aload_n hx hb dL_law_253 rfl (lv_at hl 0 rfl) ?_
  refine lv_iload hx hb dL_law_254 (lv_at hl 4 rfl) ?_
  refine lv_iconst (v := (3 : Int32)) hx hb dL_law_256 (by decide) ?_
  refine lv_iadd hx hb dL_law_257 ?_
  refine va_sld hx hb hX hbl hbA hw.2.1 i3 dL_law_258 ?_
  refine lv_aload_n hx hb dL_law_259 rfl (lv_at hl 0 rfl) ?_
  refine lv_iload hx hb dL_law_260 (lv_at hl 4 rfl) ?_
  refine lv_iconst (v := (4 : Int32)) hx hb dL_law_262 (by decide) ?_
  refine lv_iadd hx hb dL_law_263 ?_
  refine va_sld hx hb hX hbl hbA hw.2.1 i4 dL_law_264 ?_
  refine r_callV C hw (mX9_more ew) kXX9_more ck9 rfl kb0 w260 w261 w262 ⟨Nat.le_of_ble_eq_true rfl, Nat.le_of_ble_eq_true rfl⟩ rfl hl.1 (rest := []) rfl (Nat.le_of_ble_eq_true rfl) dL_law_265 (mc := 0) (ms := 0) rfl rfl ⟨by show _ + 0 ≤ 600128; omega, by show _ + 0 ≤ 7301098; omega⟩ (fun H locs hw => ?_)
  refine W.eq (g2 := F0 m 268 ls []) rfl ?_
  refine lv_aload_n hx hb dL_law_268 rfl (lv_at hl 2 rfl) ?_
  refine lv_aload_n hx hb dL_law_269 rfl (lv_at hl 0 rfl) ?_
  refine lv_iload hx hb dL_law_270 (lv_at hl 4 rfl) ?_
  refine lv_iconst (v := (1 : Int32)) hx hb dL_law_272 (by decide) ?_
  refine lv_iadd hx hb dL_law_273 ?_
  refine va_sld hx hb hX hbl hbA hw.2.1 i1 dL_law_274 ?_
  refine lv_aload_n hx hb dL_law_275 rfl (lv_at hl 0 rfl) ?_
  refine lv_iload hx hb dL_law_276 (lv_at hl 4 rfl) ?_
  refine lv_iconst (v := (2 : Int32)) hx hb dL_law_278 (by decide) ?_
  refine lv_iadd hx hb dL_law_279 ?_
  refine va_sld hx hb hX hbl hbA hw.2.1 i2 dL_law_280 ?_
  refine lv_aload_n hx hb dL_law_281 rfl (lv_at hl 0 rfl) ?_
  refine lv_iload hx hb dL_law_282 (lv_at hl 4 rfl) ?_
  refine lv_iconst (v := (3 : Int32)) hx hb dL_law_284 (by decide) ?_
  refine lv_iadd hx hb dL_law_285 ?_
  refine va_sld hx hb hX hbl hbA hw.2.1 i3 dL_law_286 ?_
  refine lv_aload_n hx hb dL_law_287 rfl (lv_at hl 0 rfl) ?_
  refine lv_iload hx hb dL_law_288 (lv_at hl 4 rfl) ?_
  refine lv_iconst (v := (4 : Int32)) hx hb dL_law_290 (by decide) ?_
  refine lv_iadd hx hb dL_law_291 ?_
  refine va_sld hx hb hX hbl hbA hw.2.1 i4 dL_law_292 ?_
  refine r_callV C hw (mX10_more em) kXX10_more ck10 rfl kb1 w1206 w1207 w1208 ⟨Nat.le_of_ble_eq_true rfl, Nat.le_of_ble_eq_true rfl⟩ rfl hl.1 (rest := []) rfl (Nat.le_of_ble_eq_true rfl) dL_law_293 (mc := 0) (ms := 0) rfl rfl ⟨by show _ + 0 ≤ 600128; omega, by show _ + 0 ≤ 7301098; omega⟩ (fun H locs hw => ?_)
  refine W.eq (g2 := F0 m 296 ls []) rfl ?_
  refine lv_goto (tgt := 1235) hx hb dL_law_296 (by decide) ?_
  exact W.widen (k := cells + 22) (n := slots + 886) (by omega) (by omega) (IH _ _ _ _ hJ hw (lv_sub hl [0, 1, 2, 3, 4] rfl))
set_option maxRecDepth 100000 in
set_option maxHeartbeats 4000000 in
theorem law_c3 {D : va_G} {cy : Nat → ClassId} {s0 : Nat} {p : Program} {l : Launch} {e : Env} {s : State} {m : MethodId} {args : Array Value} {below : List Frame} {meth : Method} {c : Code} {Q : State → Prop} (C : CX D cy s0 p s m args meth c cL_law 8 RL (some .boolean)) (hT : TS s0 s) (hst : l.stackTraces = false) {b L : Nat} {xs : Nat → Int32} (hX : va_X b L xs s s.heap) (hbl : b < s.heap.size) (hbA : ¬ s0 ≤ b) {bx bm bo : Nat} {J : Hp → Prop} {x4 : Int32} (i1 : vp_in (x4 + (1 : Int32)) L) (i2 : vp_in (x4 + (2 : Int32)) L) (i3 : vp_in (x4 + (3 : Int32)) L) (i4 : vp_in (x4 + (4 : Int32)) L) {h : Hp} {H : Heap} {locs : List Loc} {ls : Array Slot} {cells slots : Nat} (hc : cells + 22 ≤ 600128) (hs : slots + 886 ≤ 7301098) (OK : OKi J bm bo h (fL_propose bx (xs (x4 + (1 : Int32)).toNatClampNeg) (xs (x4 + (2 : Int32)).toNatClampNeg) (xs (x4 + (3 : Int32)).toNatClampNeg) (xs (x4 + (4 : Int32)).toNatClampNeg) bo) (fX10_propose bm (xs (x4 + (1 : Int32)).toNatClampNeg) (xs (x4 + (2 : Int32)).toNatClampNeg) (xs (x4 + (3 : Int32)).toNatClampNeg) (xs (x4 + (4 : Int32)).toNatClampNeg))) (hw : WS D cy s0 s h H locs) (hl : lv_has ls 8 [(0, .ref b), (1, .ref bx), (2, .ref bm), (3, .ref bo), (4, .int x4)])
    (IH : ∀ (h : Hp) (H : Heap) (locs : List Loc) (ls : Array Slot), J h → WS D cy s0 s h H locs → lv_has ls 8 [(0, .ref b), (1, .ref bx), (2, .ref bm), (3, .ref bo), (4, .int x4)] → W p l e room_1 s m args below meth c H locs (cells + 22) (slots + 886) Q (F0 m 1235 ls [])) : W p l e room_1 s m args below meth c H locs cells slots Q (F0 m 299 ls []) := by
  have hx := C.1
  have hb := C.2.1
  obtain ⟨k, h1, ew, OK⟩ := OK
  refine lv_aload_n hx hb dL_law_299 rfl (lv_at hl 1 rfl) ?_
  refine lv_aload_n hx hb dL_law_300 rfl (lv_at hl 0 rfl) ?_
  refine lv_iload hx hb dL_law_301 (lv_at hl 4 rfl) ?_
  refine lv_iconst (v := (1 : Int32)) hx hb dL_law_303 (by decide) ?_
  refine lv_iadd hx hb dL_law_304 ?_
  refine va_sld hx hb hX hbl hbA hw.2.1 i1 dL_law_305 ?_
  refine lv_aload_n hx hb dL_law_306 rfl (lv_at hl 0 rfl) ?_
  refine lv_iload hx hb dL_law_307 (lv_at hl 4 rfl) ?_
  refine lv_iconst (v := (2 : Int32)) hx hb dL_law_309 (by decide) ?_
  refine lv_iadd hx hb dL_law_310 ?_
  refine va_sld hx hb hX hbl hbA hw.2.1 i2 dL_law_311 ?_
  refine lv_aload_n hx hb dL_law_312 rfl (lv_at hl 0 rfl) ?_
  refine lv_iload hx hb dL_law_313 (lv_at hl 4 rfl) ?_
  refine lv_iconst (v := (3 : Int32)) hx hb dL_law_315 (by decide) ?_
  refine lv_iadd hx hb dL_law_316 ?_
  refine va_sld hx hb hX hbl hbA hw.2.1 i3 dL_law_317 ?_
  refine lv_aload_n hx hb dL_law_318 rfl (lv_at hl 0 rfl) ?_
  refine lv_iload hx hb dL_law_319 (lv_at hl 4 rfl) ?_
  refine lv_iconst (v := (4 : Int32)) hx hb dL_law_321 (by decide) ?_
  refine lv_iadd hx hb dL_law_322 ?_
  refine va_sld hx hb hX hbl hbA hw.2.1 i4 dL_law_323 ?_
  refine lv_aload_n hx hb dL_law_324 rfl (lv_at hl 3 rfl) ?_
  refine r_callW (n := 6) C hT hw (mL_propose hst ew) w733 w0 (by decide +kernel) w731 w732 ⟨Nat.le_of_ble_eq_true rfl, Nat.le_of_ble_eq_true rfl⟩ rfl hl.1 (rest := []) rfl (Nat.le_of_ble_eq_true rfl) dL_law_325 (mc := 4) (ms := 21) rfl rfl ⟨by show _ + 4 ≤ 600128; omega, by show _ + 21 ≤ 7301098; omega⟩ (fun z hz H locs hw => ?_)
  obtain ⟨kb1, b1, h2, em, kb2, h3, et, ho, hJ⟩ := OK z hz
  refine W.eq (g2 := F0 m 328 ls [.int k]) rfl ?_
  refine lv_istore (lv' := [(5, .int k), (0, .ref b), (1, .ref bx), (2, .ref bm), (3, .ref bo), (4, .int x4)]) hx hb dL_law_328 hl (by decide) rfl (fun ls hl => ?_)
  refine lv_aload_n hx hb dL_law_330 rfl (lv_at hl 3 rfl) ?_
  refine lv_aload_n hx hb dL_law_331 rfl (lv_at hl 1 rfl) ?_
  refine lv_iload hx hb dL_law_332 (lv_at hl 5 rfl) ?_
  refine lv_iconst (v := (1 : Int32)) hx hb dL_law_334 (by decide) ?_
  refine lv_iadd hx hb dL_law_335 ?_
  refine va_sld hx hb hX hbl hbA hw.2.1 i1 dL_law_336 ?_
  refine lv_aload_n hx hb dL_law_337 rfl (lv_at hl 1 rfl) ?_
  refine lv_iload hx hb dL_law_338 (lv_at hl 5 rfl) ?_
  refine lv_iconst (v := (2 : Int32)) hx hb dL_law_340 (by decide) ?_
  refine lv_iadd hx hb dL_law_341 ?_
  refine va_sld hx hb hX hbl hbA hw.2.1 i2 dL_law_342 ?_
  refine lv_aload_n hx hb dL_law_343 rfl (lv_at hl 1 rfl) ?_
  refine lv_iload hx hb dL_law_344 (lv_at hl 5 rfl) ?_
  refine lv_iconst (v := (3 : Int32)) hx hb dL_law_346 (by decide) ?_
  refine lv_iadd hx hb dL_law_347 ?_
  refine va_sld hx hb hX hbl hbA hw.2.1 i3 dL_law_348 ?_
  refine lv_aload_n hx hb dL_law_349 rfl (lv_at hl 1 rfl) ?_
  refine lv_iload hx hb dL_law_350 (lv_at hl 5 rfl) ?_
  refine lv_iconst (v := (4 : Int32)) hx hb dL_law_352 (by decide) ?_
  refine lv_iadd hx hb dL_law_353 ?_
  refine va_sld hx hb hX hbl hbA hw.2.1 i4 dL_law_354 ?_
  refine r_callV C hw (mX10_propose em) kXX10_propose ck10 rfl kb1 w1210 w1211 w1212 ⟨Nat.le_of_ble_eq_true rfl, Nat.le_of_ble_eq_true rfl⟩ rfl hl.1 (rest := []) rfl (Nat.le_of_ble_eq_true rfl) dL_law_355 (mc := 0) (ms := 0) rfl rfl ⟨by show _ + 0 ≤ 600128; omega, by show _ + 0 ≤ 7301098; omega⟩ (fun H locs hw => ?_)
  refine W.eq (g2 := F0 m 358 ls [.int b1]) rfl ?_
  refine lv_istore (lv' := [(6, .int b1), (5, .int k), (0, .ref b), (1, .ref bx), (2, .ref bm), (3, .ref bo), (4, .int x4)]) hx hb dL_law_358 hl (by decide) rfl (fun ls hl => ?_)
  refine lv_aload_n hx hb dL_law_360 rfl (lv_at hl 4 rfl) ?_
  refine r_callV C hw (mX10_thrown et) kXX10_thrown ck10 rfl kb2 w1121 w1122 w1123 ⟨Nat.le_of_ble_eq_true rfl, Nat.le_of_ble_eq_true rfl⟩ rfl hl.1 (rest := []) rfl (Nat.le_of_ble_eq_true rfl) dL_law_361 (mc := 0) (ms := 0) rfl rfl ⟨by show _ + 0 ≤ 600128; omega, by show _ + 0 ≤ 7301098; omega⟩ (fun H locs hw => ?_)
  refine W.eq (g2 := F0 m 364 ls [.int k]) rfl ?_
  refine lv_iload hx hb dL_law_364 (lv_at hl 1 rfl) ?_
  refine lv_icmp_eq (tgt := 371) hx hb dL_law_366 (by decide) (fun c9 => ?_) (fun c9 => absurd rfl c9)
  refine lv_iload hx hb dL_law_371 (lv_at hl 1 rfl) ?_
  refine lv_if_ne (tgt := 388) hx hb dL_law_373 (by decide) (fun c1 => ?_) (fun c1 => ?_)
  · refine lv_goto (tgt := 1235) hx hb dL_law_388 (by decide) ?_
    exact W.widen (k := cells + 22) (n := slots + 886) (by omega) (by omega) (IH _ _ _ _ hJ hw (lv_sub hl [2, 3, 4, 5, 6] rfl))
  · refine lv_aload_n hx hb dL_law_376 rfl (lv_at hl 5 rfl) ?_
    refine lv_iconst (v := (0 : Int32)) hx hb dL_law_377 (by decide) ?_
    refine r_lald C hw (ho c1) dL_law_378 ?_
    refine lv_iload hx hb dL_law_379 (lv_at hl 0 rfl) ?_
    refine lv_i2l (v := (b1.toInt64)) hx hb dL_law_381 rfl ?_
    refine W.lcmp hx hb dL_law_382 ?_
    refine lv_if_eq (tgt := 388) hx hb dL_law_383 (by decide) (fun c2 => ?_) (fun c2 => absurd (lg_cmp_self _) c2)
    refine lv_goto (tgt := 1235) hx hb dL_law_388 (by decide) ?_
    exact W.widen (k := cells + 22) (n := slots + 886) (by omega) (by omega) (IH _ _ _ _ hJ hw (lv_sub hl [2, 3, 4, 5, 6] rfl))
set_option maxRecDepth 100000 in
set_option maxHeartbeats 4000000 in
theorem law_c4 {D : va_G} {cy : Nat → ClassId} {s0 : Nat} {p : Program} {l : Launch} {e : Env} {s : State} {m : MethodId} {args : Array Value} {below : List Frame} {meth : Method} {c : Code} {Q : State → Prop} (C : CX D cy s0 p s m args meth c cL_law 8 RL (some .boolean)) (hT : TS s0 s) (hst : l.stackTraces = false) {b L : Nat} {xs : Nat → Int32} (hX : va_X b L xs s s.heap) (hbl : b < s.heap.size) (hbA : ¬ s0 ≤ b) {bx bm bo : Nat} {J : Hp → Prop} {x4 : Int32} (i1 : vp_in (x4 + (1 : Int32)) L) (i2 : vp_in (x4 + (2 : Int32)) L) (i3 : vp_in (x4 + (3 : Int32)) L) (i4 : vp_in (x4 + (4 : Int32)) L) {h : Hp} {H : Heap} {locs : List Loc} {ls : Array Slot} {cells slots : Nat} (hc : cells + 22 ≤ 600128) (hs : slots + 886 ≤ 7301098) (OK : OKi J bm bo h (fL_beat bx (xs (x4 + (1 : Int32)).toNatClampNeg) bo) (fX10_beat bm (xs (x4 + (1 : Int32)).toNatClampNeg))) (hw : WS D cy s0 s h H locs) (hl : lv_has ls 8 [(0, .ref b), (1, .ref bx), (2, .ref bm), (3, .ref bo), (4, .int x4)])
    (IH : ∀ (h : Hp) (H : Heap) (locs : List Loc) (ls : Array Slot), J h → WS D cy s0 s h H locs → lv_has ls 8 [(0, .ref b), (1, .ref bx), (2, .ref bm), (3, .ref bo), (4, .int x4)] → W p l e room_1 s m args below meth c H locs (cells + 22) (slots + 886) Q (F0 m 1235 ls [])) : W p l e room_1 s m args below meth c H locs cells slots Q (F0 m 391 ls []) := by
  have hx := C.1
  have hb := C.2.1
  obtain ⟨k, h1, ew, OK⟩ := OK
  refine lv_aload_n hx hb dL_law_391 rfl (lv_at hl 1 rfl) ?_
  refine lv_aload_n hx hb dL_law_392 rfl (lv_at hl 0 rfl) ?_
  refine lv_iload hx hb dL_law_393 (lv_at hl 4 rfl) ?_
  refine lv_iconst (v := (1 : Int32)) hx hb dL_law_395 (by decide) ?_
  refine lv_iadd hx hb dL_law_396 ?_
  refine va_sld hx hb hX hbl hbA hw.2.1 i1 dL_law_397 ?_
  refine lv_aload_n hx hb dL_law_398 rfl (lv_at hl 3 rfl) ?_
  refine r_callW (n := 3) C hT hw (mL_beat hst ew) w770 w0 (by decide +kernel) w768 w769 ⟨Nat.le_of_ble_eq_true rfl, Nat.le_of_ble_eq_true rfl⟩ rfl hl.1 (rest := []) rfl (Nat.le_of_ble_eq_true rfl) dL_law_399 (mc := 20) (ms := 129) rfl rfl ⟨by show _ + 20 ≤ 600128; omega, by show _ + 129 ≤ 7301098; omega⟩ (fun z hz H locs hw => ?_)
  obtain ⟨kb1, b1, h2, em, kb2, h3, et, ho, hJ⟩ := OK z hz
  refine W.eq (g2 := F0 m 402 ls [.int k]) rfl ?_
  refine lv_istore (lv' := [(5, .int k), (0, .ref b), (1, .ref bx), (2, .ref bm), (3, .ref bo), (4, .int x4)]) hx hb dL_law_402 hl (by decide) rfl (fun ls hl => ?_)
  refine lv_aload_n hx hb dL_law_404 rfl (lv_at hl 3 rfl) ?_
  refine lv_aload_n hx hb dL_law_405 rfl (lv_at hl 1 rfl) ?_
  refine lv_iload hx hb dL_law_406 (lv_at hl 5 rfl) ?_
  refine lv_iconst (v := (1 : Int32)) hx hb dL_law_408 (by decide) ?_
  refine lv_iadd hx hb dL_law_409 ?_
  refine va_sld hx hb hX hbl hbA hw.2.1 i1 dL_law_410 ?_
  refine r_callV C hw (mX10_beat em) kXX10_beat ck10 rfl kb1 w1221 w1222 w1223 ⟨Nat.le_of_ble_eq_true rfl, Nat.le_of_ble_eq_true rfl⟩ rfl hl.1 (rest := []) rfl (Nat.le_of_ble_eq_true rfl) dL_law_411 (mc := 0) (ms := 0) rfl rfl ⟨by show _ + 0 ≤ 600128; omega, by show _ + 0 ≤ 7301098; omega⟩ (fun H locs hw => ?_)
  refine W.eq (g2 := F0 m 414 ls [.int b1]) rfl ?_
  refine lv_istore (lv' := [(6, .int b1), (5, .int k), (0, .ref b), (1, .ref bx), (2, .ref bm), (3, .ref bo), (4, .int x4)]) hx hb dL_law_414 hl (by decide) rfl (fun ls hl => ?_)
  refine lv_aload_n hx hb dL_law_416 rfl (lv_at hl 4 rfl) ?_
  refine r_callV C hw (mX10_thrown et) kXX10_thrown ck10 rfl kb2 w1121 w1122 w1123 ⟨Nat.le_of_ble_eq_true rfl, Nat.le_of_ble_eq_true rfl⟩ rfl hl.1 (rest := []) rfl (Nat.le_of_ble_eq_true rfl) dL_law_417 (mc := 0) (ms := 0) rfl rfl ⟨by show _ + 0 ≤ 600128; omega, by show _ + 0 ≤ 7301098; omega⟩ (fun H locs hw => ?_)
  refine W.eq (g2 := F0 m 420 ls [.int k]) rfl ?_
  refine lv_iload hx hb dL_law_420 (lv_at hl 1 rfl) ?_
  refine lv_icmp_eq (tgt := 427) hx hb dL_law_422 (by decide) (fun c9 => ?_) (fun c9 => absurd rfl c9)
  refine lv_iload hx hb dL_law_427 (lv_at hl 1 rfl) ?_
  refine lv_if_ne (tgt := 444) hx hb dL_law_429 (by decide) (fun c1 => ?_) (fun c1 => ?_)
  · refine lv_goto (tgt := 1235) hx hb dL_law_444 (by decide) ?_
    exact W.widen (k := cells + 22) (n := slots + 886) (by omega) (by omega) (IH _ _ _ _ hJ hw (lv_sub hl [2, 3, 4, 5, 6] rfl))
  · refine lv_aload_n hx hb dL_law_432 rfl (lv_at hl 5 rfl) ?_
    refine lv_iconst (v := (0 : Int32)) hx hb dL_law_433 (by decide) ?_
    refine r_lald C hw (ho c1) dL_law_434 ?_
    refine lv_iload hx hb dL_law_435 (lv_at hl 0 rfl) ?_
    refine lv_i2l (v := (b1.toInt64)) hx hb dL_law_437 rfl ?_
    refine W.lcmp hx hb dL_law_438 ?_
    refine lv_if_eq (tgt := 444) hx hb dL_law_439 (by decide) (fun c2 => ?_) (fun c2 => absurd (lg_cmp_self _) c2)
    refine lv_goto (tgt := 1235) hx hb dL_law_444 (by decide) ?_
    exact W.widen (k := cells + 22) (n := slots + 886) (by omega) (by omega) (IH _ _ _ _ hJ hw (lv_sub hl [2, 3, 4, 5, 6] rfl))
set_option maxRecDepth 100000 in
set_option maxHeartbeats 4000000 in
theorem law_c5 {D : va_G} {cy : Nat → ClassId} {s0 : Nat} {p : Program} {l : Launch} {e : Env} {s : State} {m : MethodId} {args : Array Value} {below : List Frame} {meth : Method} {c : Code} {Q : State → Prop} (C : CX D cy s0 p s m args meth c cL_law 8 RL (some .boolean)) (hT : TS s0 s) (hst : l.stackTraces = false) {b L : Nat} {xs : Nat → Int32} (hX : va_X b L xs s s.heap) (hbl : b < s.heap.size) (hbA : ¬ s0 ≤ b) {bx bm bo : Nat} {J : Hp → Prop} {x4 : Int32} (i1 : vp_in (x4 + (1 : Int32)) L) (i2 : vp_in (x4 + (2 : Int32)) L) (i3 : vp_in (x4 + (3 : Int32)) L) (i4 : vp_in (x4 + (4 : Int32)) L) {h : Hp} {H : Heap} {locs : List Loc} {ls : Array Slot} {cells slots : Nat} (hc : cells + 22 ≤ 600128) (hs : slots + 886 ≤ 7301098) (OK : OKi J bm bo h (fL_shrink bx (xs (x4 + (1 : Int32)).toNatClampNeg) bo) (fX10_shrink bm (xs (x4 + (1 : Int32)).toNatClampNeg))) (hw : WS D cy s0 s h H locs) (hl : lv_has ls 8 [(0, .ref b), (1, .ref bx), (2, .ref bm), (3, .ref bo), (4, .int x4)])
    (IH : ∀ (h : Hp) (H : Heap) (locs : List Loc) (ls : Array Slot), J h → WS D cy s0 s h H locs → lv_has ls 8 [(0, .ref b), (1, .ref bx), (2, .ref bm), (3, .ref bo), (4, .int x4)] → W p l e room_1 s m args below meth c H locs (cells + 22) (slots + 886) Q (F0 m 1235 ls [])) : W p l e room_1 s m args below meth c H locs cells slots Q (F0 m 447 ls []) := by
  have hx := C.1
  have hb := C.2.1
  obtain ⟨k, h1, ew, OK⟩ := OK
  refine lv_aload_n hx hb dL_law_447 rfl (lv_at hl 1 rfl) ?_
  refine lv_aload_n hx hb dL_law_448 rfl (lv_at hl 0 rfl) ?_
  refine lv_iload hx hb dL_law_449 (lv_at hl 4 rfl) ?_
  refine lv_iconst (v := (1 : Int32)) hx hb dL_law_451 (by decide) ?_
  refine lv_iadd hx hb dL_law_452 ?_
  refine va_sld hx hb hX hbl hbA hw.2.1 i1 dL_law_453 ?_
  refine lv_aload_n hx hb dL_law_454 rfl (lv_at hl 3 rfl) ?_
  refine r_callW (n := 3) C hT hw (mL_shrink hst ew) w778 w0 (by decide +kernel) w776 w777 ⟨Nat.le_of_ble_eq_true rfl, Nat.le_of_ble_eq_true rfl⟩ rfl hl.1 (rest := []) rfl (Nat.le_of_ble_eq_true rfl) dL_law_455 (mc := 12) (ms := 886) rfl rfl ⟨by show _ + 12 ≤ 600128; omega, by show _ + 886 ≤ 7301098; omega⟩ (fun z hz H locs hw => ?_)
  obtain ⟨kb1, b1, h2, em, kb2, h3, et, ho, hJ⟩ := OK z hz
  refine W.eq (g2 := F0 m 458 ls [.int k]) rfl ?_
  refine lv_istore (lv' := [(5, .int k), (0, .ref b), (1, .ref bx), (2, .ref bm), (3, .ref bo), (4, .int x4)]) hx hb dL_law_458 hl (by decide) rfl (fun ls hl => ?_)
  refine lv_aload_n hx hb dL_law_460 rfl (lv_at hl 3 rfl) ?_
  refine lv_aload_n hx hb dL_law_461 rfl (lv_at hl 1 rfl) ?_
  refine lv_iload hx hb dL_law_462 (lv_at hl 5 rfl) ?_
  refine lv_iconst (v := (1 : Int32)) hx hb dL_law_464 (by decide) ?_
  refine lv_iadd hx hb dL_law_465 ?_
  refine va_sld hx hb hX hbl hbA hw.2.1 i1 dL_law_466 ?_
  refine r_callV C hw (mX10_shrink em) kXX10_shrink ck10 rfl kb1 w1225 w1226 w1227 ⟨Nat.le_of_ble_eq_true rfl, Nat.le_of_ble_eq_true rfl⟩ rfl hl.1 (rest := []) rfl (Nat.le_of_ble_eq_true rfl) dL_law_467 (mc := 0) (ms := 0) rfl rfl ⟨by show _ + 0 ≤ 600128; omega, by show _ + 0 ≤ 7301098; omega⟩ (fun H locs hw => ?_)
  refine W.eq (g2 := F0 m 470 ls [.int b1]) rfl ?_
  refine lv_istore (lv' := [(6, .int b1), (5, .int k), (0, .ref b), (1, .ref bx), (2, .ref bm), (3, .ref bo), (4, .int x4)]) hx hb dL_law_470 hl (by decide) rfl (fun ls hl => ?_)
  refine lv_aload_n hx hb dL_law_472 rfl (lv_at hl 4 rfl) ?_
  refine r_callV C hw (mX10_thrown et) kXX10_thrown ck10 rfl kb2 w1121 w1122 w1123 ⟨Nat.le_of_ble_eq_true rfl, Nat.le_of_ble_eq_true rfl⟩ rfl hl.1 (rest := []) rfl (Nat.le_of_ble_eq_true rfl) dL_law_473 (mc := 0) (ms := 0) rfl rfl ⟨by show _ + 0 ≤ 600128; omega, by show _ + 0 ≤ 7301098; omega⟩ (fun H locs hw => ?_)
  refine W.eq (g2 := F0 m 476 ls [.int k]) rfl ?_
  refine lv_iload hx hb dL_law_476 (lv_at hl 1 rfl) ?_
  refine lv_icmp_eq (tgt := 483) hx hb dL_law_478 (by decide) (fun c9 => ?_) (fun c9 => absurd rfl c9)
  refine lv_iload hx hb dL_law_483 (lv_at hl 1 rfl) ?_
  refine lv_if_ne (tgt := 500) hx hb dL_law_485 (by decide) (fun c1 => ?_) (fun c1 => ?_)
  · refine lv_goto (tgt := 1235) hx hb dL_law_500 (by decide) ?_
    exact W.widen (k := cells + 22) (n := slots + 886) (by omega) (by omega) (IH _ _ _ _ hJ hw (lv_sub hl [2, 3, 4, 5, 6] rfl))
  · refine lv_aload_n hx hb dL_law_488 rfl (lv_at hl 5 rfl) ?_
    refine lv_iconst (v := (0 : Int32)) hx hb dL_law_489 (by decide) ?_
    refine r_lald C hw (ho c1) dL_law_490 ?_
    refine lv_iload hx hb dL_law_491 (lv_at hl 0 rfl) ?_
    refine lv_i2l (v := (b1.toInt64)) hx hb dL_law_493 rfl ?_
    refine W.lcmp hx hb dL_law_494 ?_
    refine lv_if_eq (tgt := 500) hx hb dL_law_495 (by decide) (fun c2 => ?_) (fun c2 => absurd (lg_cmp_self _) c2)
    refine lv_goto (tgt := 1235) hx hb dL_law_500 (by decide) ?_
    exact W.widen (k := cells + 22) (n := slots + 886) (by omega) (by omega) (IH _ _ _ _ hJ hw (lv_sub hl [2, 3, 4, 5, 6] rfl))
set_option maxRecDepth 100000 in
set_option maxHeartbeats 4000000 in
theorem law_c6 {D : va_G} {cy : Nat → ClassId} {s0 : Nat} {p : Program} {l : Launch} {e : Env} {s : State} {m : MethodId} {args : Array Value} {below : List Frame} {meth : Method} {c : Code} {Q : State → Prop} (C : CX D cy s0 p s m args meth c cL_law 8 RL (some .boolean)) (hT : TS s0 s) (hst : l.stackTraces = false) {b L : Nat} {xs : Nat → Int32} (hX : va_X b L xs s s.heap) (hbl : b < s.heap.size) (hbA : ¬ s0 ≤ b) {bx bm bo : Nat} {J : Hp → Prop} {x4 : Int32} (i1 : vp_in (x4 + (1 : Int32)) L) (i2 : vp_in (x4 + (2 : Int32)) L) (i3 : vp_in (x4 + (3 : Int32)) L) (i4 : vp_in (x4 + (4 : Int32)) L) {h : Hp} {H : Heap} {locs : List Loc} {ls : Array Slot} {cells slots : Nat} (hc : cells + 22 ≤ 600128) (hs : slots + 886 ≤ 7301098) (OK : OKv J bm h (fL_crash bx (xs (x4 + (1 : Int32)).toNatClampNeg)) (fX10_crash bm (xs (x4 + (1 : Int32)).toNatClampNeg))) (hw : WS D cy s0 s h H locs) (hl : lv_has ls 8 [(0, .ref b), (1, .ref bx), (2, .ref bm), (3, .ref bo), (4, .int x4)])
    (IH : ∀ (h : Hp) (H : Heap) (locs : List Loc) (ls : Array Slot), J h → WS D cy s0 s h H locs → lv_has ls 8 [(0, .ref b), (1, .ref bx), (2, .ref bm), (3, .ref bo), (4, .int x4)] → W p l e room_1 s m args below meth c H locs (cells + 22) (slots + 886) Q (F0 m 1235 ls [])) : W p l e room_1 s m args below meth c H locs cells slots Q (F0 m 503 ls []) := by
  have hx := C.1
  have hb := C.2.1
  obtain ⟨k, h1, ew, OK⟩ := OK
  refine lv_aload_n hx hb dL_law_503 rfl (lv_at hl 1 rfl) ?_
  refine lv_aload_n hx hb dL_law_504 rfl (lv_at hl 0 rfl) ?_
  refine lv_iload hx hb dL_law_505 (lv_at hl 4 rfl) ?_
  refine lv_iconst (v := (1 : Int32)) hx hb dL_law_507 (by decide) ?_
  refine lv_iadd hx hb dL_law_508 ?_
  refine va_sld hx hb hX hbl hbA hw.2.1 i1 dL_law_509 ?_
  refine r_callW (n := 2) C hT hw (mL_crash hst ew) w796 w0 (by decide +kernel) w794 w795 ⟨Nat.le_of_ble_eq_true rfl, Nat.le_of_ble_eq_true rfl⟩ rfl hl.1 (rest := []) rfl (Nat.le_of_ble_eq_true rfl) dL_law_510 (mc := 2) (ms := 12) rfl rfl ⟨by show _ + 2 ≤ 600128; omega, by show _ + 12 ≤ 7301098; omega⟩ (fun z hz H locs hw => ?_)
  obtain ⟨kb1, h2, em, kb2, h3, et, hJ⟩ := OK z hz
  refine W.eq (g2 := F0 m 513 ls [.int k]) rfl ?_
  refine lv_istore (lv' := [(5, .int k), (0, .ref b), (1, .ref bx), (2, .ref bm), (3, .ref bo), (4, .int x4)]) hx hb dL_law_513 hl (by decide) rfl (fun ls hl => ?_)
  refine lv_aload_n hx hb dL_law_515 rfl (lv_at hl 3 rfl) ?_
  refine lv_aload_n hx hb dL_law_516 rfl (lv_at hl 1 rfl) ?_
  refine lv_iload hx hb dL_law_517 (lv_at hl 5 rfl) ?_
  refine lv_iconst (v := (1 : Int32)) hx hb dL_law_519 (by decide) ?_
  refine lv_iadd hx hb dL_law_520 ?_
  refine va_sld hx hb hX hbl hbA hw.2.1 i1 dL_law_521 ?_
  refine r_callV C hw (mX10_crash em) kXX10_crash ck10 rfl kb1 w1229 w1230 w1231 ⟨Nat.le_of_ble_eq_true rfl, Nat.le_of_ble_eq_true rfl⟩ rfl hl.1 (rest := []) rfl (Nat.le_of_ble_eq_true rfl) dL_law_522 (mc := 0) (ms := 0) rfl rfl ⟨by show _ + 0 ≤ 600128; omega, by show _ + 0 ≤ 7301098; omega⟩ (fun H locs hw => ?_)
  refine W.eq (g2 := F0 m 525 ls []) rfl ?_
  refine lv_aload_n hx hb dL_law_525 rfl (lv_at hl 3 rfl) ?_
  refine r_callV C hw (mX10_thrown et) kXX10_thrown ck10 rfl kb2 w1121 w1122 w1123 ⟨Nat.le_of_ble_eq_true rfl, Nat.le_of_ble_eq_true rfl⟩ rfl hl.1 (rest := []) rfl (Nat.le_of_ble_eq_true rfl) dL_law_526 (mc := 0) (ms := 0) rfl rfl ⟨by show _ + 0 ≤ 600128; omega, by show _ + 0 ≤ 7301098; omega⟩ (fun H locs hw => ?_)
  refine W.eq (g2 := F0 m 529 ls [.int k]) rfl ?_
  refine lv_iload hx hb dL_law_529 (lv_at hl 0 rfl) ?_
  refine lv_icmp_eq (tgt := 536) hx hb dL_law_531 (by decide) (fun c9 => ?_) (fun c9 => absurd rfl c9)
  refine lv_goto (tgt := 1235) hx hb dL_law_536 (by decide) ?_
  exact W.widen (k := cells + 22) (n := slots + 886) (by omega) (by omega) (IH _ _ _ _ hJ hw (lv_sub hl [1, 2, 3, 4, 5] rfl))
set_option maxRecDepth 100000 in
set_option maxHeartbeats 4000000 in
theorem law_c7 {D : va_G} {cy : Nat → ClassId} {s0 : Nat} {p : Program} {l : Launch} {e : Env} {s : State} {m : MethodId} {args : Array Value} {below : List Frame} {meth : Method} {c : Code} {Q : State → Prop} (C : CX D cy s0 p s m args meth c cL_law 8 RL (some .boolean)) (hT : TS s0 s) (hst : l.stackTraces = false) {b L : Nat} {xs : Nat → Int32} (hX : va_X b L xs s s.heap) (hbl : b < s.heap.size) (hbA : ¬ s0 ≤ b) {bx bm bo : Nat} {J : Hp → Prop} {x4 : Int32} (i1 : vp_in (x4 + (1 : Int32)) L) (i2 : vp_in (x4 + (2 : Int32)) L) (i3 : vp_in (x4 + (3 : Int32)) L) (i4 : vp_in (x4 + (4 : Int32)) L) {h : Hp} {H : Heap} {locs : List Loc} {ls : Array Slot} {cells slots : Nat} (hc : cells + 22 ≤ 600128) (hs : slots + 886 ≤ 7301098) (OK : OKi J bm bo h (fL_start bx (xs (x4 + (1 : Int32)).toNatClampNeg) bo) (fX10_start bm (xs (x4 + (1 : Int32)).toNatClampNeg))) (hw : WS D cy s0 s h H locs) (hl : lv_has ls 8 [(0, .ref b), (1, .ref bx), (2, .ref bm), (3, .ref bo), (4, .int x4)])
    (IH : ∀ (h : Hp) (H : Heap) (locs : List Loc) (ls : Array Slot), J h → WS D cy s0 s h H locs → lv_has ls 8 [(0, .ref b), (1, .ref bx), (2, .ref bm), (3, .ref bo), (4, .int x4)] → W p l e room_1 s m args below meth c H locs (cells + 22) (slots + 886) Q (F0 m 1235 ls [])) : W p l e room_1 s m args below meth c H locs cells slots Q (F0 m 539 ls []) := by
  have hx := C.1
  have hb := C.2.1
  obtain ⟨k, h1, ew, OK⟩ := OK
  refine lv_aload_n hx hb dL_law_539 rfl (lv_at hl 1 rfl) ?_
  refine lv_aload_n hx hb dL_law_540 rfl (lv_at hl 0 rfl) ?_
  refine lv_iload hx hb dL_law_541 (lv_at hl 4 rfl) ?_
  refine lv_iconst (v := (1 : Int32)) hx hb dL_law_543 (by decide) ?_
  refine lv_iadd hx hb dL_law_544 ?_
  refine va_sld hx hb hX hbl hbA hw.2.1 i1 dL_law_545 ?_
  refine lv_aload_n hx hb dL_law_546 rfl (lv_at hl 3 rfl) ?_
  refine r_callW (n := 3) C hT hw (mL_start hst ew) w804 w0 (by decide +kernel) w802 w803 ⟨Nat.le_of_ble_eq_true rfl, Nat.le_of_ble_eq_true rfl⟩ rfl hl.1 (rest := []) rfl (Nat.le_of_ble_eq_true rfl) dL_law_547 (mc := 2) (ms := 12) rfl rfl ⟨by show _ + 2 ≤ 600128; omega, by show _ + 12 ≤ 7301098; omega⟩ (fun z hz H locs hw => ?_)
  obtain ⟨kb1, b1, h2, em, kb2, h3, et, ho, hJ⟩ := OK z hz
  refine W.eq (g2 := F0 m 550 ls [.int k]) rfl ?_
  refine lv_istore (lv' := [(5, .int k), (0, .ref b), (1, .ref bx), (2, .ref bm), (3, .ref bo), (4, .int x4)]) hx hb dL_law_550 hl (by decide) rfl (fun ls hl => ?_)
  refine lv_aload_n hx hb dL_law_552 rfl (lv_at hl 3 rfl) ?_
  refine lv_aload_n hx hb dL_law_553 rfl (lv_at hl 1 rfl) ?_
  refine lv_iload hx hb dL_law_554 (lv_at hl 5 rfl) ?_
  refine lv_iconst (v := (1 : Int32)) hx hb dL_law_556 (by decide) ?_
  refine lv_iadd hx hb dL_law_557 ?_
  refine va_sld hx hb hX hbl hbA hw.2.1 i1 dL_law_558 ?_
  refine r_callV C hw (mX10_start em) kXX10_start ck10 rfl kb1 w1233 w1234 w1235 ⟨Nat.le_of_ble_eq_true rfl, Nat.le_of_ble_eq_true rfl⟩ rfl hl.1 (rest := []) rfl (Nat.le_of_ble_eq_true rfl) dL_law_559 (mc := 0) (ms := 0) rfl rfl ⟨by show _ + 0 ≤ 600128; omega, by show _ + 0 ≤ 7301098; omega⟩ (fun H locs hw => ?_)
  refine W.eq (g2 := F0 m 562 ls [.int b1]) rfl ?_
  refine lv_istore (lv' := [(6, .int b1), (5, .int k), (0, .ref b), (1, .ref bx), (2, .ref bm), (3, .ref bo), (4, .int x4)]) hx hb dL_law_562 hl (by decide) rfl (fun ls hl => ?_)
  refine lv_aload_n hx hb dL_law_564 rfl (lv_at hl 4 rfl) ?_
  refine r_callV C hw (mX10_thrown et) kXX10_thrown ck10 rfl kb2 w1121 w1122 w1123 ⟨Nat.le_of_ble_eq_true rfl, Nat.le_of_ble_eq_true rfl⟩ rfl hl.1 (rest := []) rfl (Nat.le_of_ble_eq_true rfl) dL_law_565 (mc := 0) (ms := 0) rfl rfl ⟨by show _ + 0 ≤ 600128; omega, by show _ + 0 ≤ 7301098; omega⟩ (fun H locs hw => ?_)
  refine W.eq (g2 := F0 m 568 ls [.int k]) rfl ?_
  refine lv_iload hx hb dL_law_568 (lv_at hl 1 rfl) ?_
  refine lv_icmp_eq (tgt := 575) hx hb dL_law_570 (by decide) (fun c9 => ?_) (fun c9 => absurd rfl c9)
  refine lv_iload hx hb dL_law_575 (lv_at hl 1 rfl) ?_
  refine lv_if_ne (tgt := 592) hx hb dL_law_577 (by decide) (fun c1 => ?_) (fun c1 => ?_)
  · refine lv_goto (tgt := 1235) hx hb dL_law_592 (by decide) ?_
    exact W.widen (k := cells + 22) (n := slots + 886) (by omega) (by omega) (IH _ _ _ _ hJ hw (lv_sub hl [2, 3, 4, 5, 6] rfl))
  · refine lv_aload_n hx hb dL_law_580 rfl (lv_at hl 5 rfl) ?_
    refine lv_iconst (v := (0 : Int32)) hx hb dL_law_581 (by decide) ?_
    refine r_lald C hw (ho c1) dL_law_582 ?_
    refine lv_iload hx hb dL_law_583 (lv_at hl 0 rfl) ?_
    refine lv_i2l (v := (b1.toInt64)) hx hb dL_law_585 rfl ?_
    refine W.lcmp hx hb dL_law_586 ?_
    refine lv_if_eq (tgt := 592) hx hb dL_law_587 (by decide) (fun c2 => ?_) (fun c2 => absurd (lg_cmp_self _) c2)
    refine lv_goto (tgt := 1235) hx hb dL_law_592 (by decide) ?_
    exact W.widen (k := cells + 22) (n := slots + 886) (by omega) (by omega) (IH _ _ _ _ hJ hw (lv_sub hl [2, 3, 4, 5, 6] rfl))
set_option maxRecDepth 100000 in
set_option maxHeartbeats 4000000 in
theorem law_c8 {D : va_G} {cy : Nat → ClassId} {s0 : Nat} {p : Program} {l : Launch} {e : Env} {s : State} {m : MethodId} {args : Array Value} {below : List Frame} {meth : Method} {c : Code} {Q : State → Prop} (C : CX D cy s0 p s m args meth c cL_law 8 RL (some .boolean)) (hT : TS s0 s) (hst : l.stackTraces = false) {b L : Nat} {xs : Nat → Int32} (hX : va_X b L xs s s.heap) (hbl : b < s.heap.size) (hbA : ¬ s0 ≤ b) {bx bm bo : Nat} {J : Hp → Prop} {x4 : Int32} (i1 : vp_in (x4 + (1 : Int32)) L) (i2 : vp_in (x4 + (2 : Int32)) L) (i3 : vp_in (x4 + (3 : Int32)) L) (i4 : vp_in (x4 + (4 : Int32)) L) {h : Hp} {H : Heap} {locs : List Loc} {ls : Array Slot} {cells slots : Nat} (hc : cells + 22 ≤ 600128) (hs : slots + 886 ≤ 7301098) (OK : OKv J bm h (fL_power bx (xs (x4 + (1 : Int32)).toNatClampNeg) (xs (x4 + (2 : Int32)).toNatClampNeg)) (fX10_power bm (xs (x4 + (1 : Int32)).toNatClampNeg) (xs (x4 + (2 : Int32)).toNatClampNeg))) (hw : WS D cy s0 s h H locs) (hl : lv_has ls 8 [(0, .ref b), (1, .ref bx), (2, .ref bm), (3, .ref bo), (4, .int x4)])
    (IH : ∀ (h : Hp) (H : Heap) (locs : List Loc) (ls : Array Slot), J h → WS D cy s0 s h H locs → lv_has ls 8 [(0, .ref b), (1, .ref bx), (2, .ref bm), (3, .ref bo), (4, .int x4)] → W p l e room_1 s m args below meth c H locs (cells + 22) (slots + 886) Q (F0 m 1235 ls [])) : W p l e room_1 s m args below meth c H locs cells slots Q (F0 m 595 ls []) := by
  have hx := C.1
  have hb := C.2.1
  obtain ⟨k, h1, ew, OK⟩ := OK
  refine lv_aload_n hx hb dL_law_595 rfl (lv_at hl 1 rfl) ?_
  refine lv_aload_n hx hb dL_law_596 rfl (lv_at hl 0 rfl) ?_
  refine lv_iload hx hb dL_law_597 (lv_at hl 4 rfl) ?_
  refine lv_iconst (v := (1 : Int32)) hx hb dL_law_599 (by decide) ?_
  refine lv_iadd hx hb dL_law_600 ?_
  refine va_sld hx hb hX hbl hbA hw.2.1 i1 dL_law_601 ?_
  refine lv_aload_n hx hb dL_law_602 rfl (lv_at hl 0 rfl) ?_
  refine lv_iload hx hb dL_law_603 (lv_at hl 4 rfl) ?_
  refine lv_iconst (v := (2 : Int32)) hx hb dL_law_605 (by decide) ?_
  refine lv_iadd hx hb dL_law_606 ?_
  refine va_sld hx hb hX hbl hbA hw.2.1 i2 dL_law_607 ?_
  refine r_callW (n := 3) C hT hw (mL_power hst ew) w816 w0 (by decide +kernel) w814 w815 ⟨Nat.le_of_ble_eq_true rfl, Nat.le_of_ble_eq_true rfl⟩ rfl hl.1 (rest := []) rfl (Nat.le_of_ble_eq_true rfl) dL_law_608 (mc := 2) (ms := 12) rfl rfl ⟨by show _ + 2 ≤ 600128; omega, by show _ + 12 ≤ 7301098; omega⟩ (fun z hz H locs hw => ?_)
  obtain ⟨kb1, h2, em, kb2, h3, et, hJ⟩ := OK z hz
  refine W.eq (g2 := F0 m 611 ls [.int k]) rfl ?_
  refine lv_istore (lv' := [(5, .int k), (0, .ref b), (1, .ref bx), (2, .ref bm), (3, .ref bo), (4, .int x4)]) hx hb dL_law_611 hl (by decide) rfl (fun ls hl => ?_)
  refine lv_aload_n hx hb dL_law_613 rfl (lv_at hl 3 rfl) ?_
  refine lv_aload_n hx hb dL_law_614 rfl (lv_at hl 1 rfl) ?_
  refine lv_iload hx hb dL_law_615 (lv_at hl 5 rfl) ?_
  refine lv_iconst (v := (1 : Int32)) hx hb dL_law_617 (by decide) ?_
  refine lv_iadd hx hb dL_law_618 ?_
  refine va_sld hx hb hX hbl hbA hw.2.1 i1 dL_law_619 ?_
  refine lv_aload_n hx hb dL_law_620 rfl (lv_at hl 1 rfl) ?_
  refine lv_iload hx hb dL_law_621 (lv_at hl 5 rfl) ?_
  refine lv_iconst (v := (2 : Int32)) hx hb dL_law_623 (by decide) ?_
  refine lv_iadd hx hb dL_law_624 ?_
  refine va_sld hx hb hX hbl hbA hw.2.1 i2 dL_law_625 ?_
  refine r_callV C hw (mX10_power em) kXX10_power ck10 rfl kb1 w1237 w1238 w1239 ⟨Nat.le_of_ble_eq_true rfl, Nat.le_of_ble_eq_true rfl⟩ rfl hl.1 (rest := []) rfl (Nat.le_of_ble_eq_true rfl) dL_law_626 (mc := 0) (ms := 0) rfl rfl ⟨by show _ + 0 ≤ 600128; omega, by show _ + 0 ≤ 7301098; omega⟩ (fun H locs hw => ?_)
  refine W.eq (g2 := F0 m 629 ls []) rfl ?_
  refine lv_aload_n hx hb dL_law_629 rfl (lv_at hl 3 rfl) ?_
  refine r_callV C hw (mX10_thrown et) kXX10_thrown ck10 rfl kb2 w1121 w1122 w1123 ⟨Nat.le_of_ble_eq_true rfl, Nat.le_of_ble_eq_true rfl⟩ rfl hl.1 (rest := []) rfl (Nat.le_of_ble_eq_true rfl) dL_law_630 (mc := 0) (ms := 0) rfl rfl ⟨by show _ + 0 ≤ 600128; omega, by show _ + 0 ≤ 7301098; omega⟩ (fun H locs hw => ?_)
  refine W.eq (g2 := F0 m 633 ls [.int k]) rfl ?_
  refine lv_iload hx hb dL_law_633 (lv_at hl 0 rfl) ?_
  refine lv_icmp_eq (tgt := 640) hx hb dL_law_635 (by decide) (fun c9 => ?_) (fun c9 => absurd rfl c9)
  refine lv_goto (tgt := 1235) hx hb dL_law_640 (by decide) ?_
  exact W.widen (k := cells + 22) (n := slots + 886) (by omega) (by omega) (IH _ _ _ _ hJ hw (lv_sub hl [1, 2, 3, 4, 5] rfl))
set_option maxRecDepth 100000 in
set_option maxHeartbeats 4000000 in
theorem law_c9 {D : va_G} {cy : Nat → ClassId} {s0 : Nat} {p : Program} {l : Launch} {e : Env} {s : State} {m : MethodId} {args : Array Value} {below : List Frame} {meth : Method} {c : Code} {Q : State → Prop} (C : CX D cy s0 p s m args meth c cL_law 8 RL (some .boolean)) (hT : TS s0 s) (hst : l.stackTraces = false) {b L : Nat} {xs : Nat → Int32} (hX : va_X b L xs s s.heap) (hbl : b < s.heap.size) (hbA : ¬ s0 ≤ b) {bx bm bo : Nat} {J : Hp → Prop} {x4 : Int32} (i1 : vp_in (x4 + (1 : Int32)) L) (i2 : vp_in (x4 + (2 : Int32)) L) (i3 : vp_in (x4 + (3 : Int32)) L) (i4 : vp_in (x4 + (4 : Int32)) L) {h : Hp} {H : Heap} {locs : List Loc} {ls : Array Slot} {cells slots : Nat} (hc : cells + 22 ≤ 600128) (hs : slots + 886 ≤ 7301098) (OK : OKi J bm bo h (fL_result bx (xs (x4 + (1 : Int32)).toNatClampNeg) (xs (x4 + (2 : Int32)).toNatClampNeg) bo) (fX10_result bm (xs (x4 + (1 : Int32)).toNatClampNeg) (xs (x4 + (2 : Int32)).toNatClampNeg))) (hw : WS D cy s0 s h H locs) (hl : lv_has ls 8 [(0, .ref b), (1, .ref bx), (2, .ref bm), (3, .ref bo), (4, .int x4)])
    (IH : ∀ (h : Hp) (H : Heap) (locs : List Loc) (ls : Array Slot), J h → WS D cy s0 s h H locs → lv_has ls 8 [(0, .ref b), (1, .ref bx), (2, .ref bm), (3, .ref bo), (4, .int x4)] → W p l e room_1 s m args below meth c H locs (cells + 22) (slots + 886) Q (F0 m 1235 ls [])) : W p l e room_1 s m args below meth c H locs cells slots Q (F0 m 643 ls []) := by
  have hx := C.1
  have hb := C.2.1
  obtain ⟨k, h1, ew, OK⟩ := OK
  refine lv_aload_n hx hb dL_law_643 rfl (lv_at hl 1 rfl) ?_
  refine lv_aload_n hx hb dL_law_644 rfl (lv_at hl 0 rfl) ?_
  refine lv_iload hx hb dL_law_645 (lv_at hl 4 rfl) ?_
  refine lv_iconst (v := (1 : Int32)) hx hb dL_law_647 (by decide) ?_
  refine lv_iadd hx hb dL_law_648 ?_
  refine va_sld hx hb hX hbl hbA hw.2.1 i1 dL_law_649 ?_
  refine lv_aload_n hx hb dL_law_650 rfl (lv_at hl 0 rfl) ?_
  refine lv_iload hx hb dL_law_651 (lv_at hl 4 rfl) ?_
  refine lv_iconst (v := (2 : Int32)) hx hb dL_law_653 (by decide) ?_
  refine lv_iadd hx hb dL_law_654 ?_
  refine va_sld hx hb hX hbl hbA hw.2.1 i2 dL_law_655 ?_
  refine lv_aload_n hx hb dL_law_656 rfl (lv_at hl 3 rfl) ?_
  refine r_callW (n := 4) C hT hw (mL_result hst ew) w824 w0 (by decide +kernel) w822 w823 ⟨Nat.le_of_ble_eq_true rfl, Nat.le_of_ble_eq_true rfl⟩ rfl hl.1 (rest := []) rfl (Nat.le_of_ble_eq_true rfl) dL_law_657 (mc := 2) (ms := 12) rfl rfl ⟨by show _ + 2 ≤ 600128; omega, by show _ + 12 ≤ 7301098; omega⟩ (fun z hz H locs hw => ?_)
  obtain ⟨kb1, b1, h2, em, kb2, h3, et, ho, hJ⟩ := OK z hz
  refine W.eq (g2 := F0 m 660 ls [.int k]) rfl ?_
  refine lv_istore (lv' := [(5, .int k), (0, .ref b), (1, .ref bx), (2, .ref bm), (3, .ref bo), (4, .int x4)]) hx hb dL_law_660 hl (by decide) rfl (fun ls hl => ?_)
  refine lv_aload_n hx hb dL_law_662 rfl (lv_at hl 3 rfl) ?_
  refine lv_aload_n hx hb dL_law_663 rfl (lv_at hl 1 rfl) ?_
  refine lv_iload hx hb dL_law_664 (lv_at hl 5 rfl) ?_
  refine lv_iconst (v := (1 : Int32)) hx hb dL_law_666 (by decide) ?_
  refine lv_iadd hx hb dL_law_667 ?_
  refine va_sld hx hb hX hbl hbA hw.2.1 i1 dL_law_668 ?_
  refine lv_aload_n hx hb dL_law_669 rfl (lv_at hl 1 rfl) ?_
  refine lv_iload hx hb dL_law_670 (lv_at hl 5 rfl) ?_
  refine lv_iconst (v := (2 : Int32)) hx hb dL_law_672 (by decide) ?_
  refine lv_iadd hx hb dL_law_673 ?_
  refine va_sld hx hb hX hbl hbA hw.2.1 i2 dL_law_674 ?_
  refine r_callV C hw (mX10_result em) kXX10_result ck10 rfl kb1 w1241 w1242 w1243 ⟨Nat.le_of_ble_eq_true rfl, Nat.le_of_ble_eq_true rfl⟩ rfl hl.1 (rest := []) rfl (Nat.le_of_ble_eq_true rfl) dL_law_675 (mc := 0) (ms := 0) rfl rfl ⟨by show _ + 0 ≤ 600128; omega, by show _ + 0 ≤ 7301098; omega⟩ (fun H locs hw => ?_)
  refine W.eq (g2 := F0 m 678 ls [.int b1]) rfl ?_
  refine lv_istore (lv' := [(6, .int b1), (5, .int k), (0, .ref b), (1, .ref bx), (2, .ref bm), (3, .ref bo), (4, .int x4)]) hx hb dL_law_678 hl (by decide) rfl (fun ls hl => ?_)
  refine lv_aload_n hx hb dL_law_680 rfl (lv_at hl 4 rfl) ?_
  refine r_callV C hw (mX10_thrown et) kXX10_thrown ck10 rfl kb2 w1121 w1122 w1123 ⟨Nat.le_of_ble_eq_true rfl, Nat.le_of_ble_eq_true rfl⟩ rfl hl.1 (rest := []) rfl (Nat.le_of_ble_eq_true rfl) dL_law_681 (mc := 0) (ms := 0) rfl rfl ⟨by show _ + 0 ≤ 600128; omega, by show _ + 0 ≤ 7301098; omega⟩ (fun H locs hw => ?_)
  refine W.eq (g2 := F0 m 684 ls [.int k]) rfl ?_
  refine lv_iload hx hb dL_law_684 (lv_at hl 1 rfl) ?_
  refine lv_icmp_eq (tgt := 691) hx hb dL_law_686 (by decide) (fun c9 => ?_) (fun c9 => absurd rfl c9)
  refine lv_iload hx hb dL_law_691 (lv_at hl 1 rfl) ?_
  refine lv_if_ne (tgt := 708) hx hb dL_law_693 (by decide) (fun c1 => ?_) (fun c1 => ?_)
  · refine lv_goto (tgt := 1235) hx hb dL_law_708 (by decide) ?_
    exact W.widen (k := cells + 22) (n := slots + 886) (by omega) (by omega) (IH _ _ _ _ hJ hw (lv_sub hl [2, 3, 4, 5, 6] rfl))
  · refine lv_aload_n hx hb dL_law_696 rfl (lv_at hl 5 rfl) ?_
    refine lv_iconst (v := (0 : Int32)) hx hb dL_law_697 (by decide) ?_
    refine r_lald C hw (ho c1) dL_law_698 ?_
    refine lv_iload hx hb dL_law_699 (lv_at hl 0 rfl) ?_
    refine lv_i2l (v := (b1.toInt64)) hx hb dL_law_701 rfl ?_
    refine W.lcmp hx hb dL_law_702 ?_
    refine lv_if_eq (tgt := 708) hx hb dL_law_703 (by decide) (fun c2 => ?_) (fun c2 => absurd (lg_cmp_self _) c2)
    refine lv_goto (tgt := 1235) hx hb dL_law_708 (by decide) ?_
    exact W.widen (k := cells + 22) (n := slots + 886) (by omega) (by omega) (IH _ _ _ _ hJ hw (lv_sub hl [2, 3, 4, 5, 6] rfl))
set_option maxRecDepth 100000 in
set_option maxHeartbeats 4000000 in
theorem law_c10 {D : va_G} {cy : Nat → ClassId} {s0 : Nat} {p : Program} {l : Launch} {e : Env} {s : State} {m : MethodId} {args : Array Value} {below : List Frame} {meth : Method} {c : Code} {Q : State → Prop} (C : CX D cy s0 p s m args meth c cL_law 8 RL (some .boolean)) (hT : TS s0 s) (hst : l.stackTraces = false) {b L : Nat} {xs : Nat → Int32} (hX : va_X b L xs s s.heap) (hbl : b < s.heap.size) (hbA : ¬ s0 ≤ b) {bx bm bo : Nat} {J : Hp → Prop} {x4 : Int32} (i1 : vp_in (x4 + (1 : Int32)) L) (i2 : vp_in (x4 + (2 : Int32)) L) (i3 : vp_in (x4 + (3 : Int32)) L) (i4 : vp_in (x4 + (4 : Int32)) L) {h : Hp} {H : Heap} {locs : List Loc} {ls : Array Slot} {cells slots : Nat} (hc : cells + 22 ≤ 600128) (hs : slots + 886 ≤ 7301098) (OK : OKi J bm bo h (fL_key bx (xs (x4 + (1 : Int32)).toNatClampNeg) (xs (x4 + (2 : Int32)).toNatClampNeg) (xs (x4 + (3 : Int32)).toNatClampNeg) bo) (fX10_key bm (xs (x4 + (1 : Int32)).toNatClampNeg) (xs (x4 + (2 : Int32)).toNatClampNeg) (xs (x4 + (3 : Int32)).toNatClampNeg))) (hw : WS D cy s0 s h H locs) (hl : lv_has ls 8 [(0, .ref b), (1, .ref bx), (2, .ref bm), (3, .ref bo), (4, .int x4)])
    (IH : ∀ (h : Hp) (H : Heap) (locs : List Loc) (ls : Array Slot), J h → WS D cy s0 s h H locs → lv_has ls 8 [(0, .ref b), (1, .ref bx), (2, .ref bm), (3, .ref bo), (4, .int x4)] → W p l e room_1 s m args below meth c H locs (cells + 22) (slots + 886) Q (F0 m 1235 ls [])) : W p l e room_1 s m args below meth c H locs cells slots Q (F0 m 711 ls []) := by
  have hx := C.1
  have hb := C.2.1
  obtain ⟨k, h1, ew, OK⟩ := OK
  refine lv_aload_n hx hb dL_law_711 rfl (lv_at hl 1 rfl) ?_
  refine lv_aload_n hx hb dL_law_712 rfl (lv_at hl 0 rfl) ?_
  refine lv_iload hx hb dL_law_713 (lv_at hl 4 rfl) ?_
  refine lv_iconst (v := (1 : Int32)) hx hb dL_law_715 (by decide) ?_
  refine lv_iadd hx hb dL_law_716 ?_
  refine va_sld hx hb hX hbl hbA hw.2.1 i1 dL_law_717 ?_
  refine lv_aload_n hx hb dL_law_718 rfl (lv_at hl 0 rfl) ?_
  refine lv_iload hx hb dL_law_719 (lv_at hl 4 rfl) ?_
  refine lv_iconst (v := (2 : Int32)) hx hb dL_law_721 (by decide) ?_
  refine lv_iadd hx hb dL_law_722 ?_
  refine va_sld hx hb hX hbl hbA hw.2.1 i2 dL_law_723 ?_
  refine lv_aload_n hx hb dL_law_724 rfl (lv_at hl 0 rfl) ?_
  refine lv_iload hx hb dL_law_725 (lv_at hl 4 rfl) ?_
  refine lv_iconst (v := (3 : Int32)) hx hb dL_law_727 (by decide) ?_
  refine lv_iadd hx hb dL_law_728 ?_
  refine va_sld hx hb hX hbl hbA hw.2.1 i3 dL_law_729 ?_
  refine lv_aload_n hx hb dL_law_730 rfl (lv_at hl 3 rfl) ?_
  refine r_callW (n := 5) C hT hw (mL_key hst ew) w852 w0 (by decide +kernel) w850 w851 ⟨Nat.le_of_ble_eq_true rfl, Nat.le_of_ble_eq_true rfl⟩ rfl hl.1 (rest := []) rfl (Nat.le_of_ble_eq_true rfl) dL_law_731 (mc := 3) (ms := 18) rfl rfl ⟨by show _ + 3 ≤ 600128; omega, by show _ + 18 ≤ 7301098; omega⟩ (fun z hz H locs hw => ?_)
  obtain ⟨kb1, b1, h2, em, kb2, h3, et, ho, hJ⟩ := OK z hz
  refine W.eq (g2 := F0 m 734 ls [.int k]) rfl ?_
  refine lv_istore (lv' := [(5, .int k), (0, .ref b), (1, .ref bx), (2, .ref bm), (3, .ref bo), (4, .int x4)]) hx hb dL_law_734 hl (by decide) rfl (fun ls hl => ?_)
  refine lv_aload_n hx hb dL_law_736 rfl (lv_at hl 3 rfl) ?_
  refine lv_aload_n hx hb dL_law_737 rfl (lv_at hl 1 rfl) ?_
  refine lv_iload hx hb dL_law_738 (lv_at hl 5 rfl) ?_
  refine lv_iconst (v := (1 : Int32)) hx hb dL_law_740 (by decide) ?_
  refine lv_iadd hx hb dL_law_741 ?_
  refine va_sld hx hb hX hbl hbA hw.2.1 i1 dL_law_742 ?_
  refine lv_aload_n hx hb dL_law_743 rfl (lv_at hl 1 rfl) ?_
  refine lv_iload hx hb dL_law_744 (lv_at hl 5 rfl) ?_
  refine lv_iconst (v := (2 : Int32)) hx hb dL_law_746 (by decide) ?_
  refine lv_iadd hx hb dL_law_747 ?_
  refine va_sld hx hb hX hbl hbA hw.2.1 i2 dL_law_748 ?_
  refine lv_aload_n hx hb dL_law_749 rfl (lv_at hl 1 rfl) ?_
  refine lv_iload hx hb dL_law_750 (lv_at hl 5 rfl) ?_
  refine lv_iconst (v := (3 : Int32)) hx hb dL_law_752 (by decide) ?_
  refine lv_iadd hx hb dL_law_753 ?_
  refine va_sld hx hb hX hbl hbA hw.2.1 i3 dL_law_754 ?_
  refine r_callV C hw (mX10_key em) kXX10_key ck10 rfl kb1 w1277 w1278 w1279 ⟨Nat.le_of_ble_eq_true rfl, Nat.le_of_ble_eq_true rfl⟩ rfl hl.1 (rest := []) rfl (Nat.le_of_ble_eq_true rfl) dL_law_755 (mc := 0) (ms := 0) rfl rfl ⟨by show _ + 0 ≤ 600128; omega, by show _ + 0 ≤ 7301098; omega⟩ (fun H locs hw => ?_)
  refine W.eq (g2 := F0 m 758 ls [.int b1]) rfl ?_
  refine lv_istore (lv' := [(6, .int b1), (5, .int k), (0, .ref b), (1, .ref bx), (2, .ref bm), (3, .ref bo), (4, .int x4)]) hx hb dL_law_758 hl (by decide) rfl (fun ls hl => ?_)
  refine lv_aload_n hx hb dL_law_760 rfl (lv_at hl 4 rfl) ?_
  refine r_callV C hw (mX10_thrown et) kXX10_thrown ck10 rfl kb2 w1121 w1122 w1123 ⟨Nat.le_of_ble_eq_true rfl, Nat.le_of_ble_eq_true rfl⟩ rfl hl.1 (rest := []) rfl (Nat.le_of_ble_eq_true rfl) dL_law_761 (mc := 0) (ms := 0) rfl rfl ⟨by show _ + 0 ≤ 600128; omega, by show _ + 0 ≤ 7301098; omega⟩ (fun H locs hw => ?_)
  refine W.eq (g2 := F0 m 764 ls [.int k]) rfl ?_
  refine lv_iload hx hb dL_law_764 (lv_at hl 1 rfl) ?_
  refine lv_icmp_eq (tgt := 771) hx hb dL_law_766 (by decide) (fun c9 => ?_) (fun c9 => absurd rfl c9)
  refine lv_iload hx hb dL_law_771 (lv_at hl 1 rfl) ?_
  refine lv_if_ne (tgt := 788) hx hb dL_law_773 (by decide) (fun c1 => ?_) (fun c1 => ?_)
  · refine lv_goto (tgt := 1235) hx hb dL_law_788 (by decide) ?_
    exact W.widen (k := cells + 22) (n := slots + 886) (by omega) (by omega) (IH _ _ _ _ hJ hw (lv_sub hl [2, 3, 4, 5, 6] rfl))
  · refine lv_aload_n hx hb dL_law_776 rfl (lv_at hl 5 rfl) ?_
    refine lv_iconst (v := (0 : Int32)) hx hb dL_law_777 (by decide) ?_
    refine r_lald C hw (ho c1) dL_law_778 ?_
    refine lv_iload hx hb dL_law_779 (lv_at hl 0 rfl) ?_
    refine lv_i2l (v := (b1.toInt64)) hx hb dL_law_781 rfl ?_
    refine W.lcmp hx hb dL_law_782 ?_
    refine lv_if_eq (tgt := 788) hx hb dL_law_783 (by decide) (fun c2 => ?_) (fun c2 => absurd (lg_cmp_self _) c2)
    refine lv_goto (tgt := 1235) hx hb dL_law_788 (by decide) ?_
    exact W.widen (k := cells + 22) (n := slots + 886) (by omega) (by omega) (IH _ _ _ _ hJ hw (lv_sub hl [2, 3, 4, 5, 6] rfl))
set_option maxRecDepth 100000 in
set_option maxHeartbeats 4000000 in
theorem law_c11 {D : va_G} {cy : Nat → ClassId} {s0 : Nat} {p : Program} {l : Launch} {e : Env} {s : State} {m : MethodId} {args : Array Value} {below : List Frame} {meth : Method} {c : Code} {Q : State → Prop} (C : CX D cy s0 p s m args meth c cL_law 8 RL (some .boolean)) (hT : TS s0 s) (hst : l.stackTraces = false) {b L : Nat} {xs : Nat → Int32} (hX : va_X b L xs s s.heap) (hbl : b < s.heap.size) (hbA : ¬ s0 ≤ b) {bx bm bo : Nat} {J : Hp → Prop} {x4 : Int32} (i1 : vp_in (x4 + (1 : Int32)) L) (i2 : vp_in (x4 + (2 : Int32)) L) (i3 : vp_in (x4 + (3 : Int32)) L) (i4 : vp_in (x4 + (4 : Int32)) L) {h : Hp} {H : Heap} {locs : List Loc} {ls : Array Slot} {cells slots : Nat} (hc : cells + 22 ≤ 600128) (hs : slots + 886 ≤ 7301098) (OK : OKi J bm bo h (fL_past bx (xs (x4 + (1 : Int32)).toNatClampNeg) (xs (x4 + (2 : Int32)).toNatClampNeg) (xs (x4 + (3 : Int32)).toNatClampNeg) bo) (fX10_past bm (xs (x4 + (1 : Int32)).toNatClampNeg) (xs (x4 + (2 : Int32)).toNatClampNeg) (xs (x4 + (3 : Int32)).toNatClampNeg))) (hw : WS D cy s0 s h H locs) (hl : lv_has ls 8 [(0, .ref b), (1, .ref bx), (2, .ref bm), (3, .ref bo), (4, .int x4)])
    (IH : ∀ (h : Hp) (H : Heap) (locs : List Loc) (ls : Array Slot), J h → WS D cy s0 s h H locs → lv_has ls 8 [(0, .ref b), (1, .ref bx), (2, .ref bm), (3, .ref bo), (4, .int x4)] → W p l e room_1 s m args below meth c H locs (cells + 22) (slots + 886) Q (F0 m 1235 ls [])) : W p l e room_1 s m args below meth c H locs cells slots Q (F0 m 791 ls []) := by
  have hx := C.1
  have hb := C.2.1
  obtain ⟨k, h1, ew, OK⟩ := OK
  refine lv_aload_n hx hb dL_law_791 rfl (lv_at hl 1 rfl) ?_
  refine lv_aload_n hx hb dL_law_792 rfl (lv_at hl 0 rfl) ?_
  refine lv_iload hx hb dL_law_793 (lv_at hl 4 rfl) ?_
  refine lv_iconst (v := (1 : Int32)) hx hb dL_law_795 (by decide) ?_
  refine lv_iadd hx hb dL_law_796 ?_
  refine va_sld hx hb hX hbl hbA hw.2.1 i1 dL_law_797 ?_
  refine lv_aload_n hx hb dL_law_798 rfl (lv_at hl 0 rfl) ?_
  refine lv_iload hx hb dL_law_799 (lv_at hl 4 rfl) ?_
  refine lv_iconst (v := (2 : Int32)) hx hb dL_law_801 (by decide) ?_
  refine lv_iadd hx hb dL_law_802 ?_
  refine va_sld hx hb hX hbl hbA hw.2.1 i2 dL_law_803 ?_
  refine lv_aload_n hx hb dL_law_804 rfl (lv_at hl 0 rfl) ?_
  refine lv_iload hx hb dL_law_805 (lv_at hl 4 rfl) ?_
  refine lv_iconst (v := (3 : Int32)) hx hb dL_law_807 (by decide) ?_
  refine lv_iadd hx hb dL_law_808 ?_
  refine va_sld hx hb hX hbl hbA hw.2.1 i3 dL_law_809 ?_
  refine lv_aload_n hx hb dL_law_810 rfl (lv_at hl 3 rfl) ?_
  refine r_callW (n := 5) C hT hw (mL_past hst ew) w867 w0 (by decide +kernel) w865 w866 ⟨Nat.le_of_ble_eq_true rfl, Nat.le_of_ble_eq_true rfl⟩ rfl hl.1 (rest := []) rfl (Nat.le_of_ble_eq_true rfl) dL_law_811 (mc := 3) (ms := 18) rfl rfl ⟨by show _ + 3 ≤ 600128; omega, by show _ + 18 ≤ 7301098; omega⟩ (fun z hz H locs hw => ?_)
  obtain ⟨kb1, b1, h2, em, kb2, h3, et, ho, hJ⟩ := OK z hz
  refine W.eq (g2 := F0 m 814 ls [.int k]) rfl ?_
  refine lv_istore (lv' := [(5, .int k), (0, .ref b), (1, .ref bx), (2, .ref bm), (3, .ref bo), (4, .int x4)]) hx hb dL_law_814 hl (by decide) rfl (fun ls hl => ?_)
  refine lv_aload_n hx hb dL_law_816 rfl (lv_at hl 3 rfl) ?_
  refine lv_aload_n hx hb dL_law_817 rfl (lv_at hl 1 rfl) ?_
  refine lv_iload hx hb dL_law_818 (lv_at hl 5 rfl) ?_
  refine lv_iconst (v := (1 : Int32)) hx hb dL_law_820 (by decide) ?_
  refine lv_iadd hx hb dL_law_821 ?_
  refine va_sld hx hb hX hbl hbA hw.2.1 i1 dL_law_822 ?_
  refine lv_aload_n hx hb dL_law_823 rfl (lv_at hl 1 rfl) ?_
  refine lv_iload hx hb dL_law_824 (lv_at hl 5 rfl) ?_
  refine lv_iconst (v := (2 : Int32)) hx hb dL_law_826 (by decide) ?_
  refine lv_iadd hx hb dL_law_827 ?_
  refine va_sld hx hb hX hbl hbA hw.2.1 i2 dL_law_828 ?_
  refine lv_aload_n hx hb dL_law_829 rfl (lv_at hl 1 rfl) ?_
  refine lv_iload hx hb dL_law_830 (lv_at hl 5 rfl) ?_
  refine lv_iconst (v := (3 : Int32)) hx hb dL_law_832 (by decide) ?_
  refine lv_iadd hx hb dL_law_833 ?_
  refine va_sld hx hb hX hbl hbA hw.2.1 i3 dL_law_834 ?_
  refine r_callV C hw (mX10_past em) kXX10_past ck10 rfl kb1 w1281 w1282 w1283 ⟨Nat.le_of_ble_eq_true rfl, Nat.le_of_ble_eq_true rfl⟩ rfl hl.1 (rest := []) rfl (Nat.le_of_ble_eq_true rfl) dL_law_835 (mc := 0) (ms := 0) rfl rfl ⟨by show _ + 0 ≤ 600128; omega, by show _ + 0 ≤ 7301098; omega⟩ (fun H locs hw => ?_)
  refine W.eq (g2 := F0 m 838 ls [.int b1]) rfl ?_
  refine lv_istore (lv' := [(6, .int b1), (5, .int k), (0, .ref b), (1, .ref bx), (2, .ref bm), (3, .ref bo), (4, .int x4)]) hx hb dL_law_838 hl (by decide) rfl (fun ls hl => ?_)
  refine lv_aload_n hx hb dL_law_840 rfl (lv_at hl 4 rfl) ?_
  refine r_callV C hw (mX10_thrown et) kXX10_thrown ck10 rfl kb2 w1121 w1122 w1123 ⟨Nat.le_of_ble_eq_true rfl, Nat.le_of_ble_eq_true rfl⟩ rfl hl.1 (rest := []) rfl (Nat.le_of_ble_eq_true rfl) dL_law_841 (mc := 0) (ms := 0) rfl rfl ⟨by show _ + 0 ≤ 600128; omega, by show _ + 0 ≤ 7301098; omega⟩ (fun H locs hw => ?_)
  refine W.eq (g2 := F0 m 844 ls [.int k]) rfl ?_
  refine lv_iload hx hb dL_law_844 (lv_at hl 1 rfl) ?_
  refine lv_icmp_eq (tgt := 851) hx hb dL_law_846 (by decide) (fun c9 => ?_) (fun c9 => absurd rfl c9)
  refine lv_iload hx hb dL_law_851 (lv_at hl 1 rfl) ?_
  refine lv_if_ne (tgt := 868) hx hb dL_law_853 (by decide) (fun c1 => ?_) (fun c1 => ?_)
  · refine lv_goto (tgt := 1235) hx hb dL_law_868 (by decide) ?_
    exact W.widen (k := cells + 22) (n := slots + 886) (by omega) (by omega) (IH _ _ _ _ hJ hw (lv_sub hl [2, 3, 4, 5, 6] rfl))
  · refine lv_aload_n hx hb dL_law_856 rfl (lv_at hl 5 rfl) ?_
    refine lv_iconst (v := (0 : Int32)) hx hb dL_law_857 (by decide) ?_
    refine r_lald C hw (ho c1) dL_law_858 ?_
    refine lv_iload hx hb dL_law_859 (lv_at hl 0 rfl) ?_
    refine lv_i2l (v := (b1.toInt64)) hx hb dL_law_861 rfl ?_
    refine W.lcmp hx hb dL_law_862 ?_
    refine lv_if_eq (tgt := 868) hx hb dL_law_863 (by decide) (fun c2 => ?_) (fun c2 => absurd (lg_cmp_self _) c2)
    refine lv_goto (tgt := 1235) hx hb dL_law_868 (by decide) ?_
    exact W.widen (k := cells + 22) (n := slots + 886) (by omega) (by omega) (IH _ _ _ _ hJ hw (lv_sub hl [2, 3, 4, 5, 6] rfl))
set_option maxRecDepth 100000 in
set_option maxHeartbeats 4000000 in
theorem law_c12 {D : va_G} {cy : Nat → ClassId} {s0 : Nat} {p : Program} {l : Launch} {e : Env} {s : State} {m : MethodId} {args : Array Value} {below : List Frame} {meth : Method} {c : Code} {Q : State → Prop} (C : CX D cy s0 p s m args meth c cL_law 8 RL (some .boolean)) (hT : TS s0 s) (hst : l.stackTraces = false) {b L : Nat} {xs : Nat → Int32} (hX : va_X b L xs s s.heap) (hbl : b < s.heap.size) (hbA : ¬ s0 ≤ b) {bx bm bo : Nat} {J : Hp → Prop} {x4 : Int32} (i1 : vp_in (x4 + (1 : Int32)) L) (i2 : vp_in (x4 + (2 : Int32)) L) (i3 : vp_in (x4 + (3 : Int32)) L) (i4 : vp_in (x4 + (4 : Int32)) L) {h : Hp} {H : Heap} {locs : List Loc} {ls : Array Slot} {cells slots : Nat} (hc : cells + 22 ≤ 600128) (hs : slots + 886 ≤ 7301098) (OK : OKl J bm bo h (fL_event bx (xs (x4 + (1 : Int32)).toNatClampNeg) (xs (x4 + (2 : Int32)).toNatClampNeg) (xs (x4 + (3 : Int32)).toNatClampNeg) bo) (fX10_event_ bm (xs (x4 + (1 : Int32)).toNatClampNeg) (xs (x4 + (2 : Int32)).toNatClampNeg) (xs (x4 + (3 : Int32)).toNatClampNeg))) (hw : WS D cy s0 s h H locs) (hl : lv_has ls 8 [(0, .ref b), (1, .ref bx), (2, .ref bm), (3, .ref bo), (4, .int x4)])
    (IH : ∀ (h : Hp) (H : Heap) (locs : List Loc) (ls : Array Slot), J h → WS D cy s0 s h H locs → lv_has ls 8 [(0, .ref b), (1, .ref bx), (2, .ref bm), (3, .ref bo), (4, .int x4)] → W p l e room_1 s m args below meth c H locs (cells + 22) (slots + 886) Q (F0 m 1235 ls [])) : W p l e room_1 s m args below meth c H locs cells slots Q (F0 m 871 ls []) := by
  have hx := C.1
  have hb := C.2.1
  obtain ⟨k, h1, ew, OK⟩ := OK
  refine lv_aload_n hx hb dL_law_871 rfl (lv_at hl 1 rfl) ?_
  refine lv_aload_n hx hb dL_law_872 rfl (lv_at hl 0 rfl) ?_
  refine lv_iload hx hb dL_law_873 (lv_at hl 4 rfl) ?_
  refine lv_iconst (v := (1 : Int32)) hx hb dL_law_875 (by decide) ?_
  refine lv_iadd hx hb dL_law_876 ?_
  refine va_sld hx hb hX hbl hbA hw.2.1 i1 dL_law_877 ?_
  refine lv_aload_n hx hb dL_law_878 rfl (lv_at hl 0 rfl) ?_
  refine lv_iload hx hb dL_law_879 (lv_at hl 4 rfl) ?_
  refine lv_iconst (v := (2 : Int32)) hx hb dL_law_881 (by decide) ?_
  refine lv_iadd hx hb dL_law_882 ?_
  refine va_sld hx hb hX hbl hbA hw.2.1 i2 dL_law_883 ?_
  refine lv_aload_n hx hb dL_law_884 rfl (lv_at hl 0 rfl) ?_
  refine lv_iload hx hb dL_law_885 (lv_at hl 4 rfl) ?_
  refine lv_iconst (v := (3 : Int32)) hx hb dL_law_887 (by decide) ?_
  refine lv_iadd hx hb dL_law_888 ?_
  refine va_sld hx hb hX hbl hbA hw.2.1 i3 dL_law_889 ?_
  refine lv_aload_n hx hb dL_law_890 rfl (lv_at hl 3 rfl) ?_
  refine r_callW (n := 5) C hT hw (mL_event hst ew) w892 w0 (by decide +kernel) w890 w891 ⟨Nat.le_of_ble_eq_true rfl, Nat.le_of_ble_eq_true rfl⟩ rfl hl.1 (rest := []) rfl (Nat.le_of_ble_eq_true rfl) dL_law_891 (mc := 3) (ms := 18) rfl rfl ⟨by show _ + 3 ≤ 600128; omega, by show _ + 18 ≤ 7301098; omega⟩ (fun z hz H locs hw => ?_)
  obtain ⟨kb1, b1, h2, em, kb2, h3, et, ho, hJ⟩ := OK z hz
  refine W.eq (g2 := F0 m 894 ls [.int k]) rfl ?_
  refine lv_istore (lv' := [(5, .int k), (0, .ref b), (1, .ref bx), (2, .ref bm), (3, .ref bo), (4, .int x4)]) hx hb dL_law_894 hl (by decide) rfl (fun ls hl => ?_)
  refine lv_aload_n hx hb dL_law_896 rfl (lv_at hl 3 rfl) ?_
  refine lv_aload_n hx hb dL_law_897 rfl (lv_at hl 1 rfl) ?_
  refine lv_iload hx hb dL_law_898 (lv_at hl 5 rfl) ?_
  refine lv_iconst (v := (1 : Int32)) hx hb dL_law_900 (by decide) ?_
  refine lv_iadd hx hb dL_law_901 ?_
  refine va_sld hx hb hX hbl hbA hw.2.1 i1 dL_law_902 ?_
  refine lv_aload_n hx hb dL_law_903 rfl (lv_at hl 1 rfl) ?_
  refine lv_iload hx hb dL_law_904 (lv_at hl 5 rfl) ?_
  refine lv_iconst (v := (2 : Int32)) hx hb dL_law_906 (by decide) ?_
  refine lv_iadd hx hb dL_law_907 ?_
  refine va_sld hx hb hX hbl hbA hw.2.1 i2 dL_law_908 ?_
  refine lv_aload_n hx hb dL_law_909 rfl (lv_at hl 1 rfl) ?_
  refine lv_iload hx hb dL_law_910 (lv_at hl 5 rfl) ?_
  refine lv_iconst (v := (3 : Int32)) hx hb dL_law_912 (by decide) ?_
  refine lv_iadd hx hb dL_law_913 ?_
  refine va_sld hx hb hX hbl hbA hw.2.1 i3 dL_law_914 ?_
  refine r_callV C hw (mX10_event_ em) kXX10_event_ ck10 rfl kb1 w1285 w1286 w1287 ⟨Nat.le_of_ble_eq_true rfl, Nat.le_of_ble_eq_true rfl⟩ rfl hl.1 (rest := []) rfl (Nat.le_of_ble_eq_true rfl) dL_law_915 (mc := 0) (ms := 0) rfl rfl ⟨by show _ + 0 ≤ 600128; omega, by show _ + 0 ≤ 7301098; omega⟩ (fun H locs hw => ?_)
  refine W.eq (g2 := F0 m 918 ls [.long b1]) rfl ?_
  refine lv_lstore (lv' := [(6, .long b1), (5, .int k), (0, .ref b), (1, .ref bx), (2, .ref bm), (3, .ref bo), (4, .int x4)]) hx hb dL_law_918 hl (by decide) rfl (fun ls hl => ?_)
  refine lv_aload_n hx hb dL_law_920 rfl (lv_at hl 4 rfl) ?_
  refine r_callV C hw (mX10_thrown et) kXX10_thrown ck10 rfl kb2 w1121 w1122 w1123 ⟨Nat.le_of_ble_eq_true rfl, Nat.le_of_ble_eq_true rfl⟩ rfl hl.1 (rest := []) rfl (Nat.le_of_ble_eq_true rfl) dL_law_921 (mc := 0) (ms := 0) rfl rfl ⟨by show _ + 0 ≤ 600128; omega, by show _ + 0 ≤ 7301098; omega⟩ (fun H locs hw => ?_)
  refine W.eq (g2 := F0 m 924 ls [.int k]) rfl ?_
  refine lv_iload hx hb dL_law_924 (lv_at hl 1 rfl) ?_
  refine lv_icmp_eq (tgt := 931) hx hb dL_law_926 (by decide) (fun c9 => ?_) (fun c9 => absurd rfl c9)
  refine lv_iload hx hb dL_law_931 (lv_at hl 1 rfl) ?_
  refine lv_if_ne (tgt := 947) hx hb dL_law_933 (by decide) (fun c1 => ?_) (fun c1 => ?_)
  · refine lv_goto (tgt := 1235) hx hb dL_law_947 (by decide) ?_
    exact W.widen (k := cells + 22) (n := slots + 886) (by omega) (by omega) (IH _ _ _ _ hJ hw (lv_sub hl [2, 3, 4, 5, 6] rfl))
  · refine lv_aload_n hx hb dL_law_936 rfl (lv_at hl 5 rfl) ?_
    refine lv_iconst (v := (0 : Int32)) hx hb dL_law_937 (by decide) ?_
    refine r_lald C hw (ho c1) dL_law_938 ?_
    refine lv_lload hx hb dL_law_939 (lv_at hl 0 rfl) ?_
    refine W.lcmp hx hb dL_law_941 ?_
    refine lv_if_eq (tgt := 947) hx hb dL_law_942 (by decide) (fun c2 => ?_) (fun c2 => absurd (lg_cmp_self _) c2)
    refine lv_goto (tgt := 1235) hx hb dL_law_947 (by decide) ?_
    exact W.widen (k := cells + 22) (n := slots + 886) (by omega) (by omega) (IH _ _ _ _ hJ hw (lv_sub hl [2, 3, 4, 5, 6] rfl))
set_option maxRecDepth 100000 in
set_option maxHeartbeats 4000000 in
theorem law_c13 {D : va_G} {cy : Nat → ClassId} {s0 : Nat} {p : Program} {l : Launch} {e : Env} {s : State} {m : MethodId} {args : Array Value} {below : List Frame} {meth : Method} {c : Code} {Q : State → Prop} (C : CX D cy s0 p s m args meth c cL_law 8 RL (some .boolean)) (hT : TS s0 s) (hst : l.stackTraces = false) {b L : Nat} {xs : Nat → Int32} (hX : va_X b L xs s s.heap) (hbl : b < s.heap.size) (hbA : ¬ s0 ≤ b) {bx bm bo : Nat} {J : Hp → Prop} {x4 : Int32} (i1 : vp_in (x4 + (1 : Int32)) L) (i2 : vp_in (x4 + (2 : Int32)) L) (i3 : vp_in (x4 + (3 : Int32)) L) (i4 : vp_in (x4 + (4 : Int32)) L) {h : Hp} {H : Heap} {locs : List Loc} {ls : Array Slot} {cells slots : Nat} (hc : cells + 22 ≤ 600128) (hs : slots + 886 ≤ 7301098) (OK : OKi J bm bo h (fL_message bx (xs (x4 + (1 : Int32)).toNatClampNeg) (xs (x4 + (2 : Int32)).toNatClampNeg) bo) (fX10_message bm (xs (x4 + (1 : Int32)).toNatClampNeg) (xs (x4 + (2 : Int32)).toNatClampNeg))) (hw : WS D cy s0 s h H locs) (hl : lv_has ls 8 [(0, .ref b), (1, .ref bx), (2, .ref bm), (3, .ref bo), (4, .int x4)])
    (IH : ∀ (h : Hp) (H : Heap) (locs : List Loc) (ls : Array Slot), J h → WS D cy s0 s h H locs → lv_has ls 8 [(0, .ref b), (1, .ref bx), (2, .ref bm), (3, .ref bo), (4, .int x4)] → W p l e room_1 s m args below meth c H locs (cells + 22) (slots + 886) Q (F0 m 1235 ls [])) : W p l e room_1 s m args below meth c H locs cells slots Q (F0 m 950 ls []) := by
  have hx := C.1
  have hb := C.2.1
  obtain ⟨k, h1, ew, OK⟩ := OK
  refine lv_aload_n hx hb dL_law_950 rfl (lv_at hl 1 rfl) ?_
  refine lv_aload_n hx hb dL_law_951 rfl (lv_at hl 0 rfl) ?_
  refine lv_iload hx hb dL_law_952 (lv_at hl 4 rfl) ?_
  refine lv_iconst (v := (1 : Int32)) hx hb dL_law_954 (by decide) ?_
  refine lv_iadd hx hb dL_law_955 ?_
  refine va_sld hx hb hX hbl hbA hw.2.1 i1 dL_law_956 ?_
  refine lv_aload_n hx hb dL_law_957 rfl (lv_at hl 0 rfl) ?_
  refine lv_iload hx hb dL_law_958 (lv_at hl 4 rfl) ?_
  refine lv_iconst (v := (2 : Int32)) hx hb dL_law_960 (by decide) ?_
  refine lv_iadd hx hb dL_law_961 ?_
  refine va_sld hx hb hX hbl hbA hw.2.1 i2 dL_law_962 ?_
  refine lv_aload_n hx hb dL_law_963 rfl (lv_at hl 3 rfl) ?_
  refine r_callW (n := 4) C hT hw (mL_message hst ew) w902 w0 (by decide +kernel) w900 w901 ⟨Nat.le_of_ble_eq_true rfl, Nat.le_of_ble_eq_true rfl⟩ rfl hl.1 (rest := []) rfl (Nat.le_of_ble_eq_true rfl) dL_law_964 (mc := 2) (ms := 12) rfl rfl ⟨by show _ + 2 ≤ 600128; omega, by show _ + 12 ≤ 7301098; omega⟩ (fun z hz H locs hw => ?_)
  obtain ⟨kb1, b1, h2, em, kb2, h3, et, ho, hJ⟩ := OK z hz
  refine W.eq (g2 := F0 m 967 ls [.int k]) rfl ?_
  refine lv_istore (lv' := [(5, .int k), (0, .ref b), (1, .ref bx), (2, .ref bm), (3, .ref bo), (4, .int x4)]) hx hb dL_law_967 hl (by decide) rfl (fun ls hl => ?_)
  refine lv_aload_n hx hb dL_law_969 rfl (lv_at hl 3 rfl) ?_
  refine lv_aload_n hx hb dL_law_970 rfl (lv_at hl 1 rfl) ?_
  refine lv_iload hx hb dL_law_971 (lv_at hl 5 rfl) ?_
  refine lv_iconst (v := (1 : Int32)) hx hb dL_law_973 (by decide) ?_
  refine lv_iadd hx hb dL_law_974 ?_
  refine va_sld hx hb hX hbl hbA hw.2.1 i1 dL_law_975 ?_
  refine lv_aload_n hx hb dL_law_976 rfl (lv_at hl 1 rfl) ?_
  refine lv_iload hx hb dL_law_977 (lv_at hl 5 rfl) ?_
  refine lv_iconst (v := (2 : Int32)) hx hb dL_law_979 (by decide) ?_
  refine lv_iadd hx hb dL_law_980 ?_
  refine va_sld hx hb hX hbl hbA hw.2.1 i2 dL_law_981 ?_
  refine r_callV C hw (mX10_message em) kXX10_message ck10 rfl kb1 w1296 w1297 w1298 ⟨Nat.le_of_ble_eq_true rfl, Nat.le_of_ble_eq_true rfl⟩ rfl hl.1 (rest := []) rfl (Nat.le_of_ble_eq_true rfl) dL_law_982 (mc := 0) (ms := 0) rfl rfl ⟨by show _ + 0 ≤ 600128; omega, by show _ + 0 ≤ 7301098; omega⟩ (fun H locs hw => ?_)
  refine W.eq (g2 := F0 m 985 ls [.int b1]) rfl ?_
  refine lv_istore (lv' := [(6, .int b1), (5, .int k), (0, .ref b), (1, .ref bx), (2, .ref bm), (3, .ref bo), (4, .int x4)]) hx hb dL_law_985 hl (by decide) rfl (fun ls hl => ?_)
  refine lv_aload_n hx hb dL_law_987 rfl (lv_at hl 4 rfl) ?_
  refine r_callV C hw (mX10_thrown et) kXX10_thrown ck10 rfl kb2 w1121 w1122 w1123 ⟨Nat.le_of_ble_eq_true rfl, Nat.le_of_ble_eq_true rfl⟩ rfl hl.1 (rest := []) rfl (Nat.le_of_ble_eq_true rfl) dL_law_988 (mc := 0) (ms := 0) rfl rfl ⟨by show _ + 0 ≤ 600128; omega, by show _ + 0 ≤ 7301098; omega⟩ (fun H locs hw => ?_)
  refine W.eq (g2 := F0 m 991 ls [.int k]) rfl ?_
  refine lv_iload hx hb dL_law_991 (lv_at hl 1 rfl) ?_
  refine lv_icmp_eq (tgt := 998) hx hb dL_law_993 (by decide) (fun c9 => ?_) (fun c9 => absurd rfl c9)
  refine lv_iload hx hb dL_law_998 (lv_at hl 1 rfl) ?_
  refine lv_if_ne (tgt := 1015) hx hb dL_law_1000 (by decide) (fun c1 => ?_) (fun c1 => ?_)
  · refine lv_goto (tgt := 1235) hx hb dL_law_1015 (by decide) ?_
    exact W.widen (k := cells + 22) (n := slots + 886) (by omega) (by omega) (IH _ _ _ _ hJ hw (lv_sub hl [2, 3, 4, 5, 6] rfl))
  · refine lv_aload_n hx hb dL_law_1003 rfl (lv_at hl 5 rfl) ?_
    refine lv_iconst (v := (0 : Int32)) hx hb dL_law_1004 (by decide) ?_
    refine r_lald C hw (ho c1) dL_law_1005 ?_
    refine lv_iload hx hb dL_law_1006 (lv_at hl 0 rfl) ?_
    refine lv_i2l (v := (b1.toInt64)) hx hb dL_law_1008 rfl ?_
    refine W.lcmp hx hb dL_law_1009 ?_
    refine lv_if_eq (tgt := 1015) hx hb dL_law_1010 (by decide) (fun c2 => ?_) (fun c2 => absurd (lg_cmp_self _) c2)
    refine lv_goto (tgt := 1235) hx hb dL_law_1015 (by decide) ?_
    exact W.widen (k := cells + 22) (n := slots + 886) (by omega) (by omega) (IH _ _ _ _ hJ hw (lv_sub hl [2, 3, 4, 5, 6] rfl))
set_option maxRecDepth 100000 in
set_option maxHeartbeats 4000000 in
theorem law_c14 {D : va_G} {cy : Nat → ClassId} {s0 : Nat} {p : Program} {l : Launch} {e : Env} {s : State} {m : MethodId} {args : Array Value} {below : List Frame} {meth : Method} {c : Code} {Q : State → Prop} (C : CX D cy s0 p s m args meth c cL_law 8 RL (some .boolean)) (hT : TS s0 s) (hst : l.stackTraces = false) {b L : Nat} {xs : Nat → Int32} (hX : va_X b L xs s s.heap) (hbl : b < s.heap.size) (hbA : ¬ s0 ≤ b) {bx bm bo : Nat} {J : Hp → Prop} {x4 : Int32} (i1 : vp_in (x4 + (1 : Int32)) L) (i2 : vp_in (x4 + (2 : Int32)) L) (i3 : vp_in (x4 + (3 : Int32)) L) (i4 : vp_in (x4 + (4 : Int32)) L) {h : Hp} {H : Heap} {locs : List Loc} {ls : Array Slot} {cells slots : Nat} (hc : cells + 22 ≤ 600128) (hs : slots + 886 ≤ 7301098) (OK : OKi J bm bo h (fL_node bx (xs (x4 + (1 : Int32)).toNatClampNeg) (xs (x4 + (2 : Int32)).toNatClampNeg) bo) (fX10_node bm (xs (x4 + (1 : Int32)).toNatClampNeg) (xs (x4 + (2 : Int32)).toNatClampNeg))) (hw : WS D cy s0 s h H locs) (hl : lv_has ls 8 [(0, .ref b), (1, .ref bx), (2, .ref bm), (3, .ref bo), (4, .int x4)])
    (IH : ∀ (h : Hp) (H : Heap) (locs : List Loc) (ls : Array Slot), J h → WS D cy s0 s h H locs → lv_has ls 8 [(0, .ref b), (1, .ref bx), (2, .ref bm), (3, .ref bo), (4, .int x4)] → W p l e room_1 s m args below meth c H locs (cells + 22) (slots + 886) Q (F0 m 1235 ls [])) : W p l e room_1 s m args below meth c H locs cells slots Q (F0 m 1018 ls []) := by
  have hx := C.1
  have hb := C.2.1
  obtain ⟨k, h1, ew, OK⟩ := OK
  refine lv_aload_n hx hb dL_law_1018 rfl (lv_at hl 1 rfl) ?_
  refine lv_aload_n hx hb dL_law_1019 rfl (lv_at hl 0 rfl) ?_
  refine lv_iload hx hb dL_law_1020 (lv_at hl 4 rfl) ?_
  refine lv_iconst (v := (1 : Int32)) hx hb dL_law_1022 (by decide) ?_
  refine lv_iadd hx hb dL_law_1023 ?_
  refine va_sld hx hb hX hbl hbA hw.2.1 i1 dL_law_1024 ?_
  refine lv_aload_n hx hb dL_law_1025 rfl (lv_at hl 0 rfl) ?_
  refine lv_iload hx hb dL_law_1026 (lv_at hl 4 rfl) ?_
  refine lv_iconst (v := (2 : Int32)) hx hb dL_law_1028 (by decide) ?_
  refine lv_iadd hx hb dL_law_1029 ?_
  refine va_sld hx hb hX hbl hbA hw.2.1 i2 dL_law_1030 ?_
  refine lv_aload_n hx hb dL_law_1031 rfl (lv_at hl 3 rfl) ?_
  refine r_callW (n := 4) C hT hw (mL_node hst ew) w915 w0 (by decide +kernel) w913 w914 ⟨Nat.le_of_ble_eq_true rfl, Nat.le_of_ble_eq_true rfl⟩ rfl hl.1 (rest := []) rfl (Nat.le_of_ble_eq_true rfl) dL_law_1032 (mc := 2) (ms := 12) rfl rfl ⟨by show _ + 2 ≤ 600128; omega, by show _ + 12 ≤ 7301098; omega⟩ (fun z hz H locs hw => ?_)
  obtain ⟨kb1, b1, h2, em, kb2, h3, et, ho, hJ⟩ := OK z hz
  refine W.eq (g2 := F0 m 1035 ls [.int k]) rfl ?_
  refine lv_istore (lv' := [(5, .int k), (0, .ref b), (1, .ref bx), (2, .ref bm), (3, .ref bo), (4, .int x4)]) hx hb dL_law_1035 hl (by decide) rfl (fun ls hl => ?_)
  refine lv_aload_n hx hb dL_law_1037 rfl (lv_at hl 3 rfl) ?_
  refine lv_aload_n hx hb dL_law_1038 rfl (lv_at hl 1 rfl) ?_
  refine lv_iload hx hb dL_law_1039 (lv_at hl 5 rfl) ?_
  refine lv_iconst (v := (1 : Int32)) hx hb dL_law_1041 (by decide) ?_
  refine lv_iadd hx hb dL_law_1042 ?_
  refine va_sld hx hb hX hbl hbA hw.2.1 i1 dL_law_1043 ?_
  refine lv_aload_n hx hb dL_law_1044 rfl (lv_at hl 1 rfl) ?_
  refine lv_iload hx hb dL_law_1045 (lv_at hl 5 rfl) ?_
  refine lv_iconst (v := (2 : Int32)) hx hb dL_law_1047 (by decide) ?_
  refine lv_iadd hx hb dL_law_1048 ?_
  refine va_sld hx hb hX hbl hbA hw.2.1 i2 dL_law_1049 ?_
  refine r_callV C hw (mX10_node em) kXX10_node ck10 rfl kb1 w1300 w1301 w1302 ⟨Nat.le_of_ble_eq_true rfl, Nat.le_of_ble_eq_true rfl⟩ rfl hl.1 (rest := []) rfl (Nat.le_of_ble_eq_true rfl) dL_law_1050 (mc := 0) (ms := 0) rfl rfl ⟨by show _ + 0 ≤ 600128; omega, by show _ + 0 ≤ 7301098; omega⟩ (fun H locs hw => ?_)
  refine W.eq (g2 := F0 m 1053 ls [.int b1]) rfl ?_
  refine lv_istore (lv' := [(6, .int b1), (5, .int k), (0, .ref b), (1, .ref bx), (2, .ref bm), (3, .ref bo), (4, .int x4)]) hx hb dL_law_1053 hl (by decide) rfl (fun ls hl => ?_)
  refine lv_aload_n hx hb dL_law_1055 rfl (lv_at hl 4 rfl) ?_
  refine r_callV C hw (mX10_thrown et) kXX10_thrown ck10 rfl kb2 w1121 w1122 w1123 ⟨Nat.le_of_ble_eq_true rfl, Nat.le_of_ble_eq_true rfl⟩ rfl hl.1 (rest := []) rfl (Nat.le_of_ble_eq_true rfl) dL_law_1056 (mc := 0) (ms := 0) rfl rfl ⟨by show _ + 0 ≤ 600128; omega, by show _ + 0 ≤ 7301098; omega⟩ (fun H locs hw => ?_)
  refine W.eq (g2 := F0 m 1059 ls [.int k]) rfl ?_
  refine lv_iload hx hb dL_law_1059 (lv_at hl 1 rfl) ?_
  refine lv_icmp_eq (tgt := 1066) hx hb dL_law_1061 (by decide) (fun c9 => ?_) (fun c9 => absurd rfl c9)
  refine lv_iload hx hb dL_law_1066 (lv_at hl 1 rfl) ?_
  refine lv_if_ne (tgt := 1083) hx hb dL_law_1068 (by decide) (fun c1 => ?_) (fun c1 => ?_)
  · refine lv_goto (tgt := 1235) hx hb dL_law_1083 (by decide) ?_
    exact W.widen (k := cells + 22) (n := slots + 886) (by omega) (by omega) (IH _ _ _ _ hJ hw (lv_sub hl [2, 3, 4, 5, 6] rfl))
  · refine lv_aload_n hx hb dL_law_1071 rfl (lv_at hl 5 rfl) ?_
    refine lv_iconst (v := (0 : Int32)) hx hb dL_law_1072 (by decide) ?_
    refine r_lald C hw (ho c1) dL_law_1073 ?_
    refine lv_iload hx hb dL_law_1074 (lv_at hl 0 rfl) ?_
    refine lv_i2l (v := (b1.toInt64)) hx hb dL_law_1076 rfl ?_
    refine W.lcmp hx hb dL_law_1077 ?_
    refine lv_if_eq (tgt := 1083) hx hb dL_law_1078 (by decide) (fun c2 => ?_) (fun c2 => absurd (lg_cmp_self _) c2)
    refine lv_goto (tgt := 1235) hx hb dL_law_1083 (by decide) ?_
    exact W.widen (k := cells + 22) (n := slots + 886) (by omega) (by omega) (IH _ _ _ _ hJ hw (lv_sub hl [2, 3, 4, 5, 6] rfl))
set_option maxRecDepth 100000 in
set_option maxHeartbeats 4000000 in
theorem law_c15 {D : va_G} {cy : Nat → ClassId} {s0 : Nat} {p : Program} {l : Launch} {e : Env} {s : State} {m : MethodId} {args : Array Value} {below : List Frame} {meth : Method} {c : Code} {Q : State → Prop} (C : CX D cy s0 p s m args meth c cL_law 8 RL (some .boolean)) (hT : TS s0 s) (hst : l.stackTraces = false) {b L : Nat} {xs : Nat → Int32} (hX : va_X b L xs s s.heap) (hbl : b < s.heap.size) (hbA : ¬ s0 ≤ b) {bx bm bo : Nat} {J : Hp → Prop} {x4 : Int32} (i1 : vp_in (x4 + (1 : Int32)) L) (i2 : vp_in (x4 + (2 : Int32)) L) (i3 : vp_in (x4 + (3 : Int32)) L) (i4 : vp_in (x4 + (4 : Int32)) L) {h : Hp} {H : Heap} {locs : List Loc} {ls : Array Slot} {cells slots : Nat} (hc : cells + 22 ≤ 600128) (hs : slots + 886 ≤ 7301098) (OK : OKi J bm bo h (fL_entry bx (xs (x4 + (1 : Int32)).toNatClampNeg) (xs (x4 + (2 : Int32)).toNatClampNeg) bo) (fX10_entry bm (xs (x4 + (1 : Int32)).toNatClampNeg) (xs (x4 + (2 : Int32)).toNatClampNeg))) (hw : WS D cy s0 s h H locs) (hl : lv_has ls 8 [(0, .ref b), (1, .ref bx), (2, .ref bm), (3, .ref bo), (4, .int x4)])
    (IH : ∀ (h : Hp) (H : Heap) (locs : List Loc) (ls : Array Slot), J h → WS D cy s0 s h H locs → lv_has ls 8 [(0, .ref b), (1, .ref bx), (2, .ref bm), (3, .ref bo), (4, .int x4)] → W p l e room_1 s m args below meth c H locs (cells + 22) (slots + 886) Q (F0 m 1235 ls [])) : W p l e room_1 s m args below meth c H locs cells slots Q (F0 m 1086 ls []) := by
  have hx := C.1
  have hb := C.2.1
  obtain ⟨k, h1, ew, OK⟩ := OK
  refine lv_aload_n hx hb dL_law_1086 rfl (lv_at hl 1 rfl) ?_
  refine lv_aload_n hx hb dL_law_1087 rfl (lv_at hl 0 rfl) ?_
  refine lv_iload hx hb dL_law_1088 (lv_at hl 4 rfl) ?_
  refine lv_iconst (v := (1 : Int32)) hx hb dL_law_1090 (by decide) ?_
  refine lv_iadd hx hb dL_law_1091 ?_
  refine va_sld hx hb hX hbl hbA hw.2.1 i1 dL_law_1092 ?_
  refine lv_aload_n hx hb dL_law_1093 rfl (lv_at hl 0 rfl) ?_
  refine lv_iload hx hb dL_law_1094 (lv_at hl 4 rfl) ?_
  refine lv_iconst (v := (2 : Int32)) hx hb dL_law_1096 (by decide) ?_
  refine lv_iadd hx hb dL_law_1097 ?_
  refine va_sld hx hb hX hbl hbA hw.2.1 i2 dL_law_1098 ?_
  refine lv_aload_n hx hb dL_law_1099 rfl (lv_at hl 3 rfl) ?_
  refine r_callW (n := 4) C hT hw (mL_entry hst ew) w935 w0 (by decide +kernel) w933 w934 ⟨Nat.le_of_ble_eq_true rfl, Nat.le_of_ble_eq_true rfl⟩ rfl hl.1 (rest := []) rfl (Nat.le_of_ble_eq_true rfl) dL_law_1100 (mc := 1) (ms := 6) rfl rfl ⟨by show _ + 1 ≤ 600128; omega, by show _ + 6 ≤ 7301098; omega⟩ (fun z hz H locs hw => ?_)
  obtain ⟨kb1, b1, h2, em, kb2, h3, et, ho, hJ⟩ := OK z hz
  refine W.eq (g2 := F0 m 1103 ls [.int k]) rfl ?_
  refine lv_istore (lv' := [(5, .int k), (0, .ref b), (1, .ref bx), (2, .ref bm), (3, .ref bo), (4, .int x4)]) hx hb dL_law_1103 hl (by decide) rfl (fun ls hl => ?_)
  refine lv_aload_n hx hb dL_law_1105 rfl (lv_at hl 3 rfl) ?_
  refine lv_aload_n hx hb dL_law_1106 rfl (lv_at hl 1 rfl) ?_
  refine lv_iload hx hb dL_law_1107 (lv_at hl 5 rfl) ?_
  refine lv_iconst (v := (1 : Int32)) hx hb dL_law_1109 (by decide) ?_
  refine lv_iadd hx hb dL_law_1110 ?_
  refine va_sld hx hb hX hbl hbA hw.2.1 i1 dL_law_1111 ?_
  refine lv_aload_n hx hb dL_law_1112 rfl (lv_at hl 1 rfl) ?_
  refine lv_iload hx hb dL_law_1113 (lv_at hl 5 rfl) ?_
  refine lv_iconst (v := (2 : Int32)) hx hb dL_law_1115 (by decide) ?_
  refine lv_iadd hx hb dL_law_1116 ?_
  refine va_sld hx hb hX hbl hbA hw.2.1 i2 dL_law_1117 ?_
  refine r_callV C hw (mX10_entry em) kXX10_entry ck10 rfl kb1 w1304 w1305 w1306 ⟨Nat.le_of_ble_eq_true rfl, Nat.le_of_ble_eq_true rfl⟩ rfl hl.1 (rest := []) rfl (Nat.le_of_ble_eq_true rfl) dL_law_1118 (mc := 0) (ms := 0) rfl rfl ⟨by show _ + 0 ≤ 600128; omega, by show _ + 0 ≤ 7301098; omega⟩ (fun H locs hw => ?_)
  refine W.eq (g2 := F0 m 1121 ls [.int b1]) rfl ?_
  refine lv_istore (lv' := [(6, .int b1), (5, .int k), (0, .ref b), (1, .ref bx), (2, .ref bm), (3, .ref bo), (4, .int x4)]) hx hb dL_law_1121 hl (by decide) rfl (fun ls hl => ?_)
  refine lv_aload_n hx hb dL_law_1123 rfl (lv_at hl 4 rfl) ?_
  refine r_callV C hw (mX10_thrown et) kXX10_thrown ck10 rfl kb2 w1121 w1122 w1123 ⟨Nat.le_of_ble_eq_true rfl, Nat.le_of_ble_eq_true rfl⟩ rfl hl.1 (rest := []) rfl (Nat.le_of_ble_eq_true rfl) dL_law_1124 (mc := 0) (ms := 0) rfl rfl ⟨by show _ + 0 ≤ 600128; omega, by show _ + 0 ≤ 7301098; omega⟩ (fun H locs hw => ?_)
  refine W.eq (g2 := F0 m 1127 ls [.int k]) rfl ?_
  refine lv_iload hx hb dL_law_1127 (lv_at hl 1 rfl) ?_
  refine lv_icmp_eq (tgt := 1134) hx hb dL_law_1129 (by decide) (fun c9 => ?_) (fun c9 => absurd rfl c9)
  refine lv_iload hx hb dL_law_1134 (lv_at hl 1 rfl) ?_
  refine lv_if_ne (tgt := 1151) hx hb dL_law_1136 (by decide) (fun c1 => ?_) (fun c1 => ?_)
  · refine lv_goto (tgt := 1235) hx hb dL_law_1151 (by decide) ?_
    exact W.widen (k := cells + 22) (n := slots + 886) (by omega) (by omega) (IH _ _ _ _ hJ hw (lv_sub hl [2, 3, 4, 5, 6] rfl))
  · refine lv_aload_n hx hb dL_law_1139 rfl (lv_at hl 5 rfl) ?_
    refine lv_iconst (v := (0 : Int32)) hx hb dL_law_1140 (by decide) ?_
    refine r_lald C hw (ho c1) dL_law_1141 ?_
    refine lv_iload hx hb dL_law_1142 (lv_at hl 0 rfl) ?_
    refine lv_i2l (v := (b1.toInt64)) hx hb dL_law_1144 rfl ?_
    refine W.lcmp hx hb dL_law_1145 ?_
    refine lv_if_eq (tgt := 1151) hx hb dL_law_1146 (by decide) (fun c2 => ?_) (fun c2 => absurd (lg_cmp_self _) c2)
    refine lv_goto (tgt := 1235) hx hb dL_law_1151 (by decide) ?_
    exact W.widen (k := cells + 22) (n := slots + 886) (by omega) (by omega) (IH _ _ _ _ hJ hw (lv_sub hl [2, 3, 4, 5, 6] rfl))
set_option maxRecDepth 100000 in
set_option maxHeartbeats 4000000 in
theorem law_c16 {D : va_G} {cy : Nat → ClassId} {s0 : Nat} {p : Program} {l : Launch} {e : Env} {s : State} {m : MethodId} {args : Array Value} {below : List Frame} {meth : Method} {c : Code} {Q : State → Prop} (C : CX D cy s0 p s m args meth c cL_law 8 RL (some .boolean)) (hT : TS s0 s) (hst : l.stackTraces = false) {b L : Nat} {xs : Nat → Int32} (hX : va_X b L xs s s.heap) (hbl : b < s.heap.size) (hbA : ¬ s0 ≤ b) {bx bm bo : Nat} {J : Hp → Prop} {x4 : Int32} (i1 : vp_in (x4 + (1 : Int32)) L) (i2 : vp_in (x4 + (2 : Int32)) L) (i3 : vp_in (x4 + (3 : Int32)) L) (i4 : vp_in (x4 + (4 : Int32)) L) {h : Hp} {H : Heap} {locs : List Loc} {ls : Array Slot} {cells slots : Nat} (hc : cells + 22 ≤ 600128) (hs : slots + 886 ≤ 7301098) (OK : OKl J bm bo h (fL_digest bx (xs (x4 + (1 : Int32)).toNatClampNeg) bo) (fX10_digest bm (xs (x4 + (1 : Int32)).toNatClampNeg))) (hw : WS D cy s0 s h H locs) (hl : lv_has ls 8 [(0, .ref b), (1, .ref bx), (2, .ref bm), (3, .ref bo), (4, .int x4)])
    (IH : ∀ (h : Hp) (H : Heap) (locs : List Loc) (ls : Array Slot), J h → WS D cy s0 s h H locs → lv_has ls 8 [(0, .ref b), (1, .ref bx), (2, .ref bm), (3, .ref bo), (4, .int x4)] → W p l e room_1 s m args below meth c H locs (cells + 22) (slots + 886) Q (F0 m 1235 ls [])) : W p l e room_1 s m args below meth c H locs cells slots Q (F0 m 1154 ls []) := by
  have hx := C.1
  have hb := C.2.1
  obtain ⟨k, h1, ew, OK⟩ := OK
  refine lv_aload_n hx hb dL_law_1154 rfl (lv_at hl 1 rfl) ?_
  refine lv_aload_n hx hb dL_law_1155 rfl (lv_at hl 0 rfl) ?_
  refine lv_iload hx hb dL_law_1156 (lv_at hl 4 rfl) ?_
  refine lv_iconst (v := (1 : Int32)) hx hb dL_law_1158 (by decide) ?_
  refine lv_iadd hx hb dL_law_1159 ?_
  refine va_sld hx hb hX hbl hbA hw.2.1 i1 dL_law_1160 ?_
  refine lv_aload_n hx hb dL_law_1161 rfl (lv_at hl 3 rfl) ?_
  refine r_callW (n := 3) C hT hw (mL_digest hst ew) w943 w0 (by decide +kernel) w941 w942 ⟨Nat.le_of_ble_eq_true rfl, Nat.le_of_ble_eq_true rfl⟩ rfl hl.1 (rest := []) rfl (Nat.le_of_ble_eq_true rfl) dL_law_1162 (mc := 2) (ms := 12) rfl rfl ⟨by show _ + 2 ≤ 600128; omega, by show _ + 12 ≤ 7301098; omega⟩ (fun z hz H locs hw => ?_)
  obtain ⟨kb1, b1, h2, em, kb2, h3, et, ho, hJ⟩ := OK z hz
  refine W.eq (g2 := F0 m 1165 ls [.int k]) rfl ?_
  refine lv_istore (lv' := [(5, .int k), (0, .ref b), (1, .ref bx), (2, .ref bm), (3, .ref bo), (4, .int x4)]) hx hb dL_law_1165 hl (by decide) rfl (fun ls hl => ?_)
  refine lv_aload_n hx hb dL_law_1167 rfl (lv_at hl 3 rfl) ?_
  refine lv_aload_n hx hb dL_law_1168 rfl (lv_at hl 1 rfl) ?_
  refine lv_iload hx hb dL_law_1169 (lv_at hl 5 rfl) ?_
  refine lv_iconst (v := (1 : Int32)) hx hb dL_law_1171 (by decide) ?_
  refine lv_iadd hx hb dL_law_1172 ?_
  refine va_sld hx hb hX hbl hbA hw.2.1 i1 dL_law_1173 ?_
  refine r_callV C hw (mX10_digest em) kXX10_digest ck10 rfl kb1 w1308 w1309 w1310 ⟨Nat.le_of_ble_eq_true rfl, Nat.le_of_ble_eq_true rfl⟩ rfl hl.1 (rest := []) rfl (Nat.le_of_ble_eq_true rfl) dL_law_1174 (mc := 0) (ms := 0) rfl rfl ⟨by show _ + 0 ≤ 600128; omega, by show _ + 0 ≤ 7301098; omega⟩ (fun H locs hw => ?_)
  refine W.eq (g2 := F0 m 1177 ls [.long b1]) rfl ?_
  refine lv_lstore (lv' := [(6, .long b1), (5, .int k), (0, .ref b), (1, .ref bx), (2, .ref bm), (3, .ref bo), (4, .int x4)]) hx hb dL_law_1177 hl (by decide) rfl (fun ls hl => ?_)
  refine lv_aload_n hx hb dL_law_1179 rfl (lv_at hl 4 rfl) ?_
  refine r_callV C hw (mX10_thrown et) kXX10_thrown ck10 rfl kb2 w1121 w1122 w1123 ⟨Nat.le_of_ble_eq_true rfl, Nat.le_of_ble_eq_true rfl⟩ rfl hl.1 (rest := []) rfl (Nat.le_of_ble_eq_true rfl) dL_law_1180 (mc := 0) (ms := 0) rfl rfl ⟨by show _ + 0 ≤ 600128; omega, by show _ + 0 ≤ 7301098; omega⟩ (fun H locs hw => ?_)
  refine W.eq (g2 := F0 m 1183 ls [.int k]) rfl ?_
  refine lv_iload hx hb dL_law_1183 (lv_at hl 1 rfl) ?_
  refine lv_icmp_eq (tgt := 1190) hx hb dL_law_1185 (by decide) (fun c9 => ?_) (fun c9 => absurd rfl c9)
  refine lv_iload hx hb dL_law_1190 (lv_at hl 1 rfl) ?_
  refine lv_if_ne (tgt := 1206) hx hb dL_law_1192 (by decide) (fun c1 => ?_) (fun c1 => ?_)
  · refine lv_goto (tgt := 1235) hx hb dL_law_1206 (by decide) ?_
    exact W.widen (k := cells + 22) (n := slots + 886) (by omega) (by omega) (IH _ _ _ _ hJ hw (lv_sub hl [2, 3, 4, 5, 6] rfl))
  · refine lv_aload_n hx hb dL_law_1195 rfl (lv_at hl 5 rfl) ?_
    refine lv_iconst (v := (0 : Int32)) hx hb dL_law_1196 (by decide) ?_
    refine r_lald C hw (ho c1) dL_law_1197 ?_
    refine lv_lload hx hb dL_law_1198 (lv_at hl 0 rfl) ?_
    refine W.lcmp hx hb dL_law_1200 ?_
    refine lv_if_eq (tgt := 1206) hx hb dL_law_1201 (by decide) (fun c2 => ?_) (fun c2 => absurd (lg_cmp_self _) c2)
    refine lv_goto (tgt := 1235) hx hb dL_law_1206 (by decide) ?_
    exact W.widen (k := cells + 22) (n := slots + 886) (by omega) (by omega) (IH _ _ _ _ hJ hw (lv_sub hl [2, 3, 4, 5, 6] rfl))
set_option maxRecDepth 100000 in
set_option maxHeartbeats 4000000 in
theorem law_c17 {D : va_G} {cy : Nat → ClassId} {s0 : Nat} {p : Program} {l : Launch} {e : Env} {s : State} {m : MethodId} {args : Array Value} {below : List Frame} {meth : Method} {c : Code} {Q : State → Prop} (C : CX D cy s0 p s m args meth c cL_law 8 RL (some .boolean)) (hT : TS s0 s) (hst : l.stackTraces = false) {b L : Nat} {xs : Nat → Int32} (hX : va_X b L xs s s.heap) (hbl : b < s.heap.size) (hbA : ¬ s0 ≤ b) {bx bm bo : Nat} {J : Hp → Prop} {x4 : Int32} (i1 : vp_in (x4 + (1 : Int32)) L) (i2 : vp_in (x4 + (2 : Int32)) L) (i3 : vp_in (x4 + (3 : Int32)) L) (i4 : vp_in (x4 + (4 : Int32)) L) {h : Hp} {H : Heap} {locs : List Loc} {ls : Array Slot} {cells slots : Nat} (hc : cells + 22 ≤ 600128) (hs : slots + 886 ≤ 7301098) (OK : OKg J bx bm h (fX9_messages bx) (fX10_messages bm)) (hw : WS D cy s0 s h H locs) (hl : lv_has ls 8 [(0, .ref b), (1, .ref bx), (2, .ref bm), (3, .ref bo), (4, .int x4)])
    (IH : ∀ (h : Hp) (H : Heap) (locs : List Loc) (ls : Array Slot), J h → WS D cy s0 s h H locs → lv_has ls 8 [(0, .ref b), (1, .ref bx), (2, .ref bm), (3, .ref bo), (4, .int x4)] → W p l e room_1 s m args below meth c H locs (cells + 22) (slots + 886) Q (F0 m 1235 ls [])) : W p l e room_1 s m args below meth c H locs cells slots Q (F0 m 1209 ls []) := by
  have hx := C.1
  have hb := C.2.1
  obtain ⟨kb0, v, h1, ew, kb1, h2, em, hJ⟩ := OK
  refine lv_aload_n hx hb dL_law_1209 rfl (lv_at hl 1 rfl) ?_
  refine r_callV C hw (mX9_messages ew) kXX9_messages ck9 rfl kb0 w264 w265 w266 ⟨Nat.le_of_ble_eq_true rfl, Nat.le_of_ble_eq_true rfl⟩ rfl hl.1 (rest := []) rfl (Nat.le_of_ble_eq_true rfl) dL_law_1210 (mc := 0) (ms := 0) rfl rfl ⟨by show _ + 0 ≤ 600128; omega, by show _ + 0 ≤ 7301098; omega⟩ (fun H locs hw => ?_)
  refine W.eq (g2 := F0 m 1213 ls [.int v]) rfl ?_
  refine lv_aload_n hx hb dL_law_1213 rfl (lv_at hl 2 rfl) ?_
  refine r_callV C hw (mX10_messages em) kXX10_messages ck10 rfl kb1 w1314 w1315 w1316 ⟨Nat.le_of_ble_eq_true rfl, Nat.le_of_ble_eq_true rfl⟩ rfl hl.1 (rest := [.int v]) rfl (Nat.le_of_ble_eq_true rfl) dL_law_1214 (mc := 0) (ms := 0) rfl rfl ⟨by show _ + 0 ≤ 600128; omega, by show _ + 0 ≤ 7301098; omega⟩ (fun H locs hw => ?_)
  refine W.eq (g2 := F0 m 1217 ls [.int v, .int v]) rfl ?_
  refine lv_icmp_eq (tgt := 1235) hx hb dL_law_1217 (by decide) (fun c9 => ?_) (fun c9 => absurd rfl c9)
  exact W.widen (k := cells + 22) (n := slots + 886) (by omega) (by omega) (IH _ _ _ _ hJ hw (lv_sub hl [0, 1, 2, 3, 4] rfl))
set_option maxRecDepth 100000 in
set_option maxHeartbeats 4000000 in
theorem law_c18 {D : va_G} {cy : Nat → ClassId} {s0 : Nat} {p : Program} {l : Launch} {e : Env} {s : State} {m : MethodId} {args : Array Value} {below : List Frame} {meth : Method} {c : Code} {Q : State → Prop} (C : CX D cy s0 p s m args meth c cL_law 8 RL (some .boolean)) (hT : TS s0 s) (hst : l.stackTraces = false) {b L : Nat} {xs : Nat → Int32} (hX : va_X b L xs s s.heap) (hbl : b < s.heap.size) (hbA : ¬ s0 ≤ b) {bx bm bo : Nat} {J : Hp → Prop} {x4 : Int32} (i1 : vp_in (x4 + (1 : Int32)) L) (i2 : vp_in (x4 + (2 : Int32)) L) (i3 : vp_in (x4 + (3 : Int32)) L) (i4 : vp_in (x4 + (4 : Int32)) L) {h : Hp} {H : Heap} {locs : List Loc} {ls : Array Slot} {cells slots : Nat} (hc : cells + 22 ≤ 600128) (hs : slots + 886 ≤ 7301098) (OK : OKg J bx bm h (fX9_check bx) (fX10_check bm)) (hw : WS D cy s0 s h H locs) (hl : lv_has ls 8 [(0, .ref b), (1, .ref bx), (2, .ref bm), (3, .ref bo), (4, .int x4)])
    (IH : ∀ (h : Hp) (H : Heap) (locs : List Loc) (ls : Array Slot), J h → WS D cy s0 s h H locs → lv_has ls 8 [(0, .ref b), (1, .ref bx), (2, .ref bm), (3, .ref bo), (4, .int x4)] → W p l e room_1 s m args below meth c H locs (cells + 22) (slots + 886) Q (F0 m 1235 ls [])) : W p l e room_1 s m args below meth c H locs cells slots Q (F0 m 1222 ls []) := by
  have hx := C.1
  have hb := C.2.1
  obtain ⟨kb0, v, h1, ew, kb1, h2, em, hJ⟩ := OK
  refine lv_aload_n hx hb dL_law_1222 rfl (lv_at hl 1 rfl) ?_
  refine r_callV C hw (mX9_check ew) kXX9_check ck9 rfl kb0 w268 w269 w270 ⟨Nat.le_of_ble_eq_true rfl, Nat.le_of_ble_eq_true rfl⟩ rfl hl.1 (rest := []) rfl (Nat.le_of_ble_eq_true rfl) dL_law_1223 (mc := 0) (ms := 0) rfl rfl ⟨by show _ + 0 ≤ 600128; omega, by show _ + 0 ≤ 7301098; omega⟩ (fun H locs hw => ?_)
  refine W.eq (g2 := F0 m 1226 ls [.int v]) rfl ?_
  refine lv_aload_n hx hb dL_law_1226 rfl (lv_at hl 2 rfl) ?_
  refine r_callV C hw (mX10_check em) kXX10_check ck10 rfl kb1 w1318 w1319 w1320 ⟨Nat.le_of_ble_eq_true rfl, Nat.le_of_ble_eq_true rfl⟩ rfl hl.1 (rest := [.int v]) rfl (Nat.le_of_ble_eq_true rfl) dL_law_1227 (mc := 0) (ms := 0) rfl rfl ⟨by show _ + 0 ≤ 600128; omega, by show _ + 0 ≤ 7301098; omega⟩ (fun H locs hw => ?_)
  refine W.eq (g2 := F0 m 1230 ls [.int v, .int v]) rfl ?_
  refine lv_icmp_eq (tgt := 1235) hx hb dL_law_1230 (by decide) (fun c9 => ?_) (fun c9 => absurd rfl c9)
  exact W.widen (k := cells + 22) (n := slots + 886) (by omega) (by omega) (IH _ _ _ _ hJ hw (lv_sub hl [0, 1, 2, 3, 4] rfl))
