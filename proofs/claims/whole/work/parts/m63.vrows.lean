/-! ===== bodies that throw: 0 IndexOutOfBounds, 1 IllegalState, 2 IllegalArgument, 3 NoSuchElement ===== -/
def ename : Nat → String
  | 0 => "java/lang/IndexOutOfBoundsException"
  | 1 => "java/lang/IllegalStateException"
  | 2 => "java/lang/IllegalArgumentException"
  | _ => "java/util/NoSuchElementException"
abbrev EN : List String := ["java/lang/RuntimeException", "java/lang/Exception"]
def FX (U : State) : Prop := ∀ w ∈ FW, va_Nw w U
def TS (s0 : Nat) (U : State) : Prop := vx_Zq Bundle.tN "UNASSIGNED_STACK" Bundle.steD (fun q => s0 ≤ q) U U.heap ∧ vx_Zq Bundle.tN "SUPPRESSED_SENTINEL" Bundle.listD (fun q => s0 ≤ q) U U.heap ∧ (∀ q ∈ STR, ∃ sa, vk_R RX9 q.1 q.2 sa U) ∧ FX U ∧ ∀ q ∈ NCL, va_Nc q.1 q.2 U
theorem FX.warm {s U : State} (hW : s.WarmedH U.vm) (h : FX s) : FX U := fun w hw => by
  have h1 := h w hw
  obtain ⟨g1, g2⟩ := FW_form w hw
  exact va_tabs g1 (rfl : (s.setVm U.vm).vm = U.vm) (Cond.before_shiftedFace (args := #[]) (State.Shifted.of_warmed hW) w g2 h1)
theorem TS.moves {s0 : Nat} {s U : State} {H : Heap} {locs : List Loc} (h : TS s0 s) (hS : va_S (fun q => s0 ≤ q) s.heap H locs) (hU : U.heap = H) (hW : s.WarmedH U.vm) : TS s0 U := by
  obtain ⟨h1, h2, h3, h4, h5⟩ := h
  subst hU
  refine ⟨(h1.kept (fun a g1 g2 => hS.2.1 a g1 g2)).moved hW.alike, (h2.kept (fun a g1 g2 => hS.2.1 a g1 g2)).moved hW.alike, fun q hq => ?_, h4.warm hW, fun q hq => (h5 q hq).moved hW.alike⟩
  obtain ⟨sa, g⟩ := h3 q hq
  exact ⟨sa, g.warm hW⟩
theorem TS.same {s0 : Nat} {s U : State} (hv : s.vm = U.vm) (hU : U.heap = s.heap) (h : TS s0 s) : TS s0 U := by
  obtain ⟨h1, h2, h3, h4, h5⟩ := h
  have ha : s.vm.Alike U.vm := by rw [hv]; exact Vm.Alike.refl _
  refine ⟨by rw [hU]; exact h1.moved ha, by rw [hU]; exact h2.moved ha, fun q hq => ?_, fun w hw => (h4 w hw).same (FW_form w hw).1 hv, fun q hq => (h5 q hq).moved ha⟩
  obtain ⟨sa, g⟩ := h3 q hq
  exact ⟨sa, g.same hv.symm⟩
def StX (D : va_G) (cy : Nat → ClassId) (s0 : Nat) (h : Hp) (U : State) : Prop := St D cy s0 h U ∧ TS s0 U
def QX (D : va_G) (cy : Nat → ClassId) (s0 : Nat) (r : Option Value ⊕ Nat) (h : Hp) : Array Value → State → Outcome → State → Prop := fun a st o t => ∃ v, r = .inl v ∧ QQ D cy s0 v h a st o t
def XX (D : va_G) (cy : Nat → ClassId) (s0 : Nat) (r : Option Value ⊕ Nat) (h : Hp) : String → State → State → Prop := fun E st t => ∃ k, r = .inr k ∧ E = ename k ∧ (∃ z, hZ h ≤ z ∧ HS D cy s0 (zH h z) t.heap) ∧ va_F (fun q => s0 ≤ q) st t
def XT (D : va_G) (cy : Nat → ClassId) (s0 : Nat) (l : Launch) (y : MethodName) (bytes : ByteArray) (maxL : Nat) (ret : Option FieldType) (rm : Room) (As : List Value) (h : Hp) (r : Option Value ⊕ Nat) (h1 : Hp) : Prop :=
  vx_Met l y (.code y bytes maxL ret :: GW) rm (va_Pc As (StX D cy s0 h)) (QX D cy s0 r h1) (XX D cy s0 r h1) rm.cells rm.slots (fun q => s0 ≤ q)
/-- inside a body that may throw and catches nothing -/
def CY (D : va_G) (cy : Nat → ClassId) (s0 : Nat) (l : Launch) (p : Program) (s : State) (m : MethodId) (args : Array Value) (meth : Method) (c : Code) (cc : ByteArray) (nL : Nat) (own : String) (ret : Option FieldType) : Prop :=
  CX D cy s0 p s m args meth c cc nL own ret ∧ TS s0 s ∧ l.stackTraces = false ∧ ∀ x ∈ c.exceptionTable.toList, False
theorem obx {α β : Type} {o : Option ((α ⊕ Nat) × Hp)} {k : α → Hp → Option ((β ⊕ Nat) × Hp)} {r : (β ⊕ Nat) × Hp} (h : bdx o k = some r) : (∃ v h1, o = some (.inl v, h1) ∧ k v h1 = some r) ∨ ∃ e h1, o = some (.inr e, h1) ∧ some (.inr e, h1) = some r := by
  cases o with
  | none => cases h
  | some x =>
    obtain ⟨x, h1⟩ := x
    cases x with
    | inl v => exact Or.inl ⟨v, h1, rfl, h⟩
    | inr e => exact Or.inr ⟨e, h1, rfl, h⟩
def rxI (x : Int32 ⊕ Nat) : Option Value ⊕ Nat := match x with | .inl v => .inl (some (.int v)) | .inr k => .inr k
def rxJ (x : Int64 ⊕ Nat) : Option Value ⊕ Nat := match x with | .inl v => .inl (some (.long v)) | .inr k => .inr k
def rxV (x : Unit ⊕ Nat) : Option Value ⊕ Nat := match x with | .inl _ => .inl none | .inr k => .inr k
def rxR (x : Option Nat ⊕ Nat) : Option Value ⊕ Nat := match x with | .inl v => .inl (some (va_rf v)) | .inr k => .inr k
section VROWS
variable {p : Program} {l : Launch} {e : Env} {R : Room} {s : State} {m : MethodId} {args : Array Value} {below : List Frame} {meth : Method} {c : Code} {H : Heap} {locs : List Loc} {cells slots : Nat} {Q : State → Prop}
variable {cc : ByteArray} {pc : Nat} {ls : Array Slot} {rest : List Value} {D : va_G} {cy : Nat → ClassId} {s0 : Nat} {h : Hp} {nL : Nat} {own : String} {ret : Option FieldType}
theorem HS.grow {H1 : Heap} (hh : HS D cy s0 h H) (hz : H.size ≤ H1.size) (hk : ∀ q : Nat, q < H.size → H1[q]? = H[q]?) : HS D cy s0 (zH h H1.size) H1 := by
  refine ⟨rfl, Nat.le_trans (by rw [hh.1]; exact hh.2.1) hz, fun a k ha => ?_⟩
  obtain ⟨g1, g2⟩ := hh.2.2 a k ha
  exact ⟨g1, (show va_at D vwCl (a, cellE cy h a k) H1 from g2.kept (hk a g2.lt))⟩
theorem StX.blind {av : List Value} : FrameBlind (va_Pc av (StX D cy s0 h)) := fun a U g mk q => by
  obtain ⟨q0, ⟨q1, q2, q3⟩, q4⟩ := q
  exact ⟨q0, ⟨q1, va_K.moved (u := U) (U := U.calling g mk a) (Vm.Alike.refl U.vm) q2, q3.same (s := U) (U := U.calling g mk a) rfl⟩, q4.same (s := U) (U := U.calling g mk a) rfl rfl⟩
theorem CY.st (Y : CY D cy s0 l p s m args meth c cc nL own ret) (hw : WS D cy s0 s h H locs) : ∀ U : State, U.heap = H → s.WarmedH U.vm → StX D cy s0 h U := fun U hU hW => ⟨Y.1.st hw U hU hW, Y.2.1.moves hw.2.1 hU hW⟩
theorem x_iret (Y : CY D cy s0 l p s m args meth c cc nL own ret) (hw : WS D cy s0 s h H locs) {v : Int32} {ty : FieldType} (hr : ret = some ty) (hn : narrow ty (.int v) = .int v) {mc ms : Nat} (hc : cells ≤ mc) (hs : slots ≤ ms) (hdg : decode cc pc = .ok (.ireturn, 1)) : W p l e R s m args below meth c H locs cells slots (vx_MQ below (QX D cy s0 (rxI (.inl v)) h) (XX D cy s0 (rxI (.inl v)) h) args s mc ms (fun q => s0 ≤ q)) (F0 m pc ls [.int v]) := by
  obtain ⟨⟨hx, hb, -, -, -, -, -, hrt, hlk, -⟩, -⟩ := Y
  exact vx_ret (W.widen hc hs (W.zret hx hb (hrt.trans hr) hn (fun t ht hW => ⟨_, rfl, q_end hw t ht hW⟩) hw.2.1.2.2 hdg hlk))
theorem x_lret (Y : CY D cy s0 l p s m args meth c cc nL own ret) (hw : WS D cy s0 s h H locs) {v : Int64} (hr : ret = some .long) {mc ms : Nat} (hc : cells ≤ mc) (hs : slots ≤ ms) (hdg : decode cc pc = .ok (.lreturn, 1)) : W p l e R s m args below meth c H locs cells slots (vx_MQ below (QX D cy s0 (rxJ (.inl v)) h) (XX D cy s0 (rxJ (.inl v)) h) args s mc ms (fun q => s0 ≤ q)) (F0 m pc ls [.long v]) := by
  obtain ⟨⟨hx, hb, -, -, -, -, -, hrt, hlk, -⟩, -⟩ := Y
  exact vx_ret (W.widen hc hs (W.lret hx hb (hrt.trans hr) (fun t ht hW => ⟨_, rfl, q_end hw t ht hW⟩) hw.2.1.2.2 hdg hlk))
theorem x_aret (Y : CY D cy s0 l p s m args meth c cc nL own ret) (hw : WS D cy s0 s h H locs) {v : Option Nat} {vv : Value} (hv : va_rf v = vv) {ty : FieldType} (hr : ret = some ty) (hty : (∃ n, ty = .object n) ∨ ∃ t, ty = .array t) {mc ms : Nat} (hc : cells ≤ mc) (hs : slots ≤ ms) (hdg : decode cc pc = .ok (.areturn, 1)) : W p l e R s m args below meth c H locs cells slots (vx_MQ below (QX D cy s0 (rxR (.inl v)) h) (XX D cy s0 (rxR (.inl v)) h) args s mc ms (fun q => s0 ≤ q)) (F0 m pc ls [vv]) := by
  obtain ⟨⟨hx, hb, -, -, -, -, -, hrt, hlk, -⟩, -⟩ := Y
  subst hv
  exact vx_ret (W.widen hc hs (W.aret hx hb (hrt.trans hr) hty (va_rf_or v) (fun t ht hW => ⟨_, rfl, q_end hw t ht hW⟩) hw.2.1.2.2 hdg hlk))
theorem x_vret (Y : CY D cy s0 l p s m args meth c cc nL own ret) (hw : WS D cy s0 s h H locs) (hr : ret = none) {mc ms : Nat} (hc : cells ≤ mc) (hs : slots ≤ ms) (hdg : decode cc pc = .ok (.return_, 1)) {u : Unit} : W p l e R s m args below meth c H locs cells slots (vx_MQ below (QX D cy s0 (rxV (.inl u)) h) (XX D cy s0 (rxV (.inl u)) h) args s mc ms (fun q => s0 ≤ q)) (F0 m pc ls []) := by
  obtain ⟨⟨hx, hb, -, -, -, -, -, hrt, hlk, -⟩, -⟩ := Y
  exact vx_ret (W.widen hc hs (W.vret hx hb (hrt.trans hr) (fun t ht hW => ⟨_, rfl, q_end hw t ht hW⟩) hw.2.1.2.2 hdg hlk))
/-- the words of 'throw new E("text")' in class RaftRegistry -/
def XK (k ik ic : Nat) : Prop := Bundle.fit (ename k) = true ∧ Cond.classLink RX9 ik (ename k) ∈ GW ∧ Cond.initialized (ename k) ∈ GW ∧ (∀ w ∈ vx_atS RX9 ic (ename k) EN, w ∈ GW ∨ w ∈ FW) ∧ (∀ w ∈ Cond.classLink RX9 ik (ename k) :: Cond.initialized (ename k) :: vx_atS RX9 ic (ename k) EN, vx_ot w = true)
theorem EN_fit : ∀ n ∈ EN, Bundle.fit n = true := by decide +kernel
theorem XX.thrown (hw : WS D cy s0 s h H locs) {k : Nat} {r : Option Value ⊕ Nat} (hr : r = .inr k) : ∀ t : State, s.vm.Alike t.vm → H.size ≤ t.heap.size → (∀ q : Nat, q < H.size → t.heap[q]? = H[q]?) → XX D cy s0 r h (ename k) s t := fun t _ h1 h2 =>
  ⟨k, hr, rfl, ⟨t.heap.size, by rw [← hw.1.1]; exact h1, hw.1.grow h1 h2⟩, Nat.le_trans hw.2.1.1 h1, fun q g1 g2 => (h2 q (Nat.lt_of_lt_of_le g1 hw.2.1.1)).trans (hw.2.1.2.1 q g1 g2)⟩
theorem x_throw (Y : CY D cy s0 l p s m args meth c cc nL RX9 ret) (hw : WS D cy s0 s h H locs) {k ik is ic mc ms : Nat} {text : String} {r : Option Value ⊕ Nat} (hr : r = .inr k) (xk : XK k ik ic) (hst : (is, text) ∈ STR) (hsize : ls.size = nL)
    (d0 : decode cc pc = .ok (.new ik, 3)) (d3 : decode cc (pc + 3) = .ok (.dup, 1)) (d4 : decode cc (pc + 4) = .ok (.ldc is, 2)) (d6 : decode cc (pc + 6) = .ok (.invokespecial ic, 3)) (d9 : decode cc (pc + 9) = .ok (.athrow, 1))
    (hRf : 5 < R.frames) (hRl : (rest.map fun v => v.category).sum + 82 ≤ R.locals) (hRc : cells + 1 ≤ R.cells) (hRs : slots + 6 ≤ R.slots) (hc : cells + 1 ≤ mc) (hs : slots + 6 ≤ ms) :
    W p l e R s m args below meth c H locs cells slots (vx_MQ below (QX D cy s0 r h) (XX D cy s0 r h) args s mc ms (fun q => s0 ≤ q)) (F0 m pc ls rest) := by
  obtain ⟨C, ⟨t1, t2, t3, t4, -⟩, hl, hE⟩ := Y
  obtain ⟨x1, x2, x3, x4, x5⟩ := xk
  obtain ⟨sa, hstr⟩ := t3 _ hst
  have hts := C.2.2.2.2.1
  exact vx_throwS (names := EN) (A := fun q => s0 ≤ q) C.1 C.2.1 hl C.2.2.2.1 x1 EN_fit (hts _ x2) (hts _ x3) hstr (fun w hw => (x4 w hw).elim (hts w) (fun g => (t4 w g).use (FW_form w g).1)) x5 t1 t2 hw.2.1 (hsize.trans C.2.2.1.symm) d0 d3 d4 d6 d9 (fun x hx => (hE x hx).elim) hRf hRl hRc hRs C.2.2.2.2.2.2.2.2.1 (XX.thrown hw hr) hw.2.1.2.2 hc hs
theorem x_throwW (Y : CY D cy s0 l p s m args meth c cc nL RX9 ret) (hw : WS D cy s0 s h H locs) {k ik is ic mc ms : Nat} {text : String} {r : Option Value ⊕ Nat} (hr : r = .inr k) (xk : XK k ik ic) (hst : (is, text) ∈ STR) (hsize : ls.size = nL)
    (d0 : decode cc pc = .ok (.new ik, 3)) (d3 : decode cc (pc + 3) = .ok (.dup, 1)) (d4 : decode cc (pc + 4) = .ok (.ldc_w is, 3)) (d6 : decode cc (pc + 7) = .ok (.invokespecial ic, 3)) (d9 : decode cc (pc + 10) = .ok (.athrow, 1))
    (hRf : 5 < R.frames) (hRl : (rest.map fun v => v.category).sum + 82 ≤ R.locals) (hRc : cells + 1 ≤ R.cells) (hRs : slots + 6 ≤ R.slots) (hc : cells + 1 ≤ mc) (hs : slots + 6 ≤ ms) :
    W p l e R s m args below meth c H locs cells slots (vx_MQ below (QX D cy s0 r h) (XX D cy s0 r h) args s mc ms (fun q => s0 ≤ q)) (F0 m pc ls rest) := by
  obtain ⟨C, ⟨t1, t2, t3, t4, -⟩, hl, hE⟩ := Y
  obtain ⟨x1, x2, x3, x4, x5⟩ := xk
  obtain ⟨sa, hstr⟩ := t3 _ hst
  have hts := C.2.2.2.2.1
  exact vx_throwSW (names := EN) (A := fun q => s0 ≤ q) C.1 C.2.1 hl C.2.2.2.1 x1 EN_fit (hts _ x2) (hts _ x3) hstr (fun w hw => (x4 w hw).elim (hts w) (fun g => (t4 w g).use (FW_form w g).1)) x5 t1 t2 hw.2.1 (hsize.trans C.2.2.1.symm) d0 d3 d4 d6 d9 (fun x hx => (hE x hx).elim) hRf hRl hRc hRs C.2.2.2.2.2.2.2.2.1 (XX.thrown hw hr) hw.2.1.2.2 hc hs
theorem x_back {mc ms : Nat} {st0 : List Value} {r : Option Value ⊕ Nat} {h1 : Hp} {a : Array Value} (hw : WS D cy s0 s h H locs) (hr : vx_Run p l e R s m args below meth c H locs cells slots mc ms (F0 m pc ls st0) rest (QX D cy s0 r h1 a) (XX D cy s0 r h1) (fun q => s0 ≤ q))
    (kk : ∀ v, r = .inl v → ∀ (H1 : Heap) (locs1 : List Loc), WS D cy s0 s h1 H1 locs1 → W p l e R s m args below meth c H1 locs1 (cells + mc) (slots + ms) Q (F0 m (pc + 3) ls (v.toList ++ rest)))
    (kx : ∀ k, r = .inr k → ∀ (H1 : Heap) (locs1 : List Loc) (q : Addr) (ce : Cell) (z : Nat), hZ h1 ≤ z → WS D cy s0 s (zH h1 z) H1 locs1 → H1[q]? = some ce → ce.vm = .none → s.vm.findClass (ename k) = some ce.cls → vx_W p l e R s m args below meth c H1 locs1 (cells + mc) (slots + ms) Q (F0 m pc ls rest) q) : W p l e R s m args below meth c H locs cells slots Q (F0 m pc ls st0) := by
  intro T hT X
  rcases hr T hT X with ⟨v, st₀, t, T', L, h0, X', hL, e1, e2, ⟨v2, hv2, hv, hh, hF⟩, st⟩ | ⟨q, st₀, t, T', L, E, ce, h0, X', hL, e1, e2, ⟨k, hk, hE, ⟨z, hz, hh⟩, hF⟩, hce, hcv, hcl, st⟩
  · cases hv
    obtain ⟨k1, k2, k3⟩ := vx_keep h0 e1 hw.2.1 (fun _ _ h => h) (fun _ h => h) hL hF
    obtain ⟨t2, a1, b1⟩ := kk _ hv2 T'.heap (locs ++ L) ⟨by rw [e1]; exact hh, k3, hw.2.2⟩ T' rfl X'
    exact ⟨t2, st t2 a1, b1⟩
  · obtain ⟨k1, k2, k3⟩ := vx_keep h0 e1 hw.2.1 (fun _ _ h => h) (fun _ h => h) hL hF
    subst hE
    obtain ⟨t2, a1, b1⟩ := kx k hk T'.heap (locs ++ L) q ce z hz ⟨by rw [e1]; exact hh, k3, hw.2.2⟩ (by rw [e1]; exact hce) hcv hcl T' rfl X'
    exact ⟨t2, st.trans a1, b1⟩
/-- not caught: on to the caller -/
theorem x_out {E1 : Heap} {k : Nat} {h1 : Hp} {z : Nat} {q : Addr} {ce : Cell} {mc ms : Nat} {r : Option Value ⊕ Nat} (hr : r = .inr k) (Y : CY D cy s0 l p s m args meth c cc nL own ret) (hz : hZ h1 ≤ z) (hw : WS D cy s0 s (zH h1 z) H locs) (hce : H[q]? = some ce) (hcv : ce.vm = .none) (hcl : s.vm.findClass (ename k) = some ce.cls) (hc : cells ≤ mc) (hs : slots ≤ ms) :
    vx_W p l e R s m args below meth c H locs cells slots (vx_MQ below (QX D cy s0 r h1) (XX D cy s0 r h1) args s mc ms (fun q => s0 ≤ q)) (F0 m pc ls rest) q :=
  vx_out (fun x hx => (Y.2.2.2 x hx).elim) Y.1.2.2.2.2.2.2.2.2.1 hce hcv hcl (fun t ht _ => ⟨k, hr, rfl, ⟨z, hz, by rw [ht]; exact hw.1⟩, hw.2.1.F ht⟩) hw.2.1.2.2 hc hs
theorem x_runV (C : CX D cy s0 p s m args meth c cc nL own ret) (hT : TS s0 s) (hw : WS D cy s0 s h H locs) {y : MethodName} {bytes : ByteArray} {maxL n index b ci : Nat} {ret2 : Option FieldType} {rm : Room} {As : List Value} {r : Option Value ⊕ Nat} {h1 : Hp} {Cn : String} {T : u_T} {N : Nat} {ty : Nat → FieldType} (hM : XT D cy s0 l y bytes maxL ret2 rm (.ref b :: As) h r h1) (mk : MK y bytes maxL ret2 n) (ck : CK ci Cn T N ty) (hy : y.cls = Cn) (kb : hK h b = some (ci, 0))
    (hl : Cond.methodLink own index y ∈ GW) (hi : Cond.instanceMethod y ∈ GW) (hs : Cond.selects y.cls y y ∈ GW) (hR : rm.frames + 1 ≤ R.frames ∧ 8 + (maxL + 11) + rm.locals ≤ R.locals) (hn : As.length = n) (hsize : ls.size = nL) {st0 : List Value} (hstack : st0 = As.reverse ++ .ref b :: rest) (hW : (rest.map fun v => v.category).sum ≤ 8) (hdg : decode cc pc = .ok (.invokevirtual index, 3)) {mc ms : Nat} (hmc : rm.cells = mc) (hms : rm.slots = ms) (hf : cells + mc ≤ R.cells ∧ slots + ms ≤ R.slots) :
    vx_Run p l e R s m args below meth c H locs cells slots mc ms (F0 m pc ls st0) rest (QX D cy s0 r h1 (Value.ref b :: As).toArray) (XX D cy s0 r h1) (fun q => s0 ≤ q) := by
  subst hstack
  subst hmc; subst hms
  have hts := C.2.2.2.2.1
  have hKv := C.2.2.2.2.2.1
  subst hy
  refine vx_runV (C := y.cls) (b := b) (n := n) (ret := ret2) (bytes := bytes) (maxL := maxL) (index := index) C.fix hM ⟨callB_of n hts (gw_self mk.1) rfl rfl rfl (hts _ mk.2.1) (hts _ hl) mk.2.2 hR, hts _ hi, hts _ hs⟩ ⟨StX.blind, ?_, fun U hU hW => ⟨rfl, ⟨C.st hw U hU hW, hT.moves hw.2.1 hU hW⟩⟩⟩ rfl hn hsize rfl (by simpa using hW) hdg hf
  obtain ⟨r', g1, cell, q1, q2, q3, -⟩ := (hw.1.one kb (cellE_o cy h b ck.2.2.2.2.2.1)) 0 _ rfl
  exact ⟨cell, q1, by rw [q3]; rfl, by rw [q2]; exact (hKv.1 ci _ ck.1).2.1⟩
theorem x_runS (C : CX D cy s0 p s m args meth c cc nL own ret) (hT : TS s0 s) (hw : WS D cy s0 s h H locs) {y : MethodName} {bytes : ByteArray} {maxL n index : Nat} {ret2 : Option FieldType} {rm : Room} {As : List Value} {r : Option Value ⊕ Nat} {h1 : Hp} (hM : XT D cy s0 l y bytes maxL ret2 rm As h r h1) (mk : MK y bytes maxL ret2 n)
    (hl : Cond.methodLink own index y ∈ GW) (hi : Cond.static y ∈ GW) (hR : rm.frames + 1 ≤ R.frames ∧ 8 + (maxL + 11) + rm.locals ≤ R.locals) (hn : As.length = n) (hsize : ls.size = nL) {st0 : List Value} (hstack : st0 = As.reverse ++ rest) (hW : (rest.map fun v => v.category).sum ≤ 8) (hdg : decode cc pc = .ok (.invokestatic index, 3)) {mc ms : Nat} (hmc : rm.cells = mc) (hms : rm.slots = ms) (hf : cells + mc ≤ R.cells ∧ slots + ms ≤ R.slots) :
    vx_Run p l e R s m args below meth c H locs cells slots mc ms (F0 m pc ls st0) rest (QX D cy s0 r h1 As.toArray) (XX D cy s0 r h1) (fun q => s0 ≤ q) := by
  subst hstack
  subst hmc; subst hms
  have hts := C.2.2.2.2.1
  exact vx_runS (n := n) (ret := ret2) (bytes := bytes) (maxL := maxL) (index := index) C.fix hM ⟨callB_of n hts (gw_self mk.1) rfl rfl rfl (hts _ mk.2.1) (hts _ hl) mk.2.2 hR, hts _ hi⟩ ⟨StX.blind, fun U hU hW => ⟨rfl, ⟨C.st hw U hU hW, hT.moves hw.2.1 hU hW⟩⟩⟩ rfl hn hsize rfl (by simpa using hW) hdg hf
/-- the callee returns -/
theorem x_ret {mc ms : Nat} {st0 : List Value} {v : Option Value} {h1 : Hp} {a : Array Value} {r : Option Value ⊕ Nat} (hrv : r = .inl v) (hw : WS D cy s0 s h H locs) (hr : vx_Run p l e R s m args below meth c H locs cells slots mc ms (F0 m pc ls st0) rest (QX D cy s0 r h1 a) (XX D cy s0 r h1) (fun q => s0 ≤ q))
    (kk : ∀ (H1 : Heap) (locs1 : List Loc), WS D cy s0 s h1 H1 locs1 → W p l e R s m args below meth c H1 locs1 (cells + mc) (slots + ms) Q (F0 m (pc + 3) ls (v.toList ++ rest))) : W p l e R s m args below meth c H locs cells slots Q (F0 m pc ls st0) :=
  x_back hw hr (fun v2 hv2 => by rw [hrv] at hv2; cases hv2; exact kk) (fun k hk => by rw [hrv] at hk; cases hk)
/-- the callee throws, and this body catches nothing -/
theorem x_thr {mc ms mc2 ms2 : Nat} {st0 : List Value} {k : Nat} {h1 : Hp} {a : Array Value} {r r2 : Option Value ⊕ Nat} (hrv : r = .inr k) (hrv2 : r2 = .inr k) (Y : CY D cy s0 l p s m args meth c cc nL own ret) (hw : WS D cy s0 s h H locs) (hr : vx_Run p l e R s m args below meth c H locs cells slots mc ms (F0 m pc ls st0) rest (QX D cy s0 r h1 a) (XX D cy s0 r h1) (fun q => s0 ≤ q)) (hc : cells + mc ≤ mc2) (hs : slots + ms ≤ ms2) :
    W p l e R s m args below meth c H locs cells slots (vx_MQ below (QX D cy s0 r2 h1) (XX D cy s0 r2 h1) args s mc2 ms2 (fun q => s0 ≤ q)) (F0 m pc ls st0) :=
  x_back hw hr (fun v2 hv2 => by rw [hrv] at hv2; cases hv2) (fun k2 hk H1 locs1 q ce z hz hw1 g1 g2 g3 => by rw [hrv] at hk; cases hk; exact x_out (E1 := H1) hrv2 Y hz hw1 g1 g2 g3 hc hs)
theorem XT.of {y : MethodName} {bytes : ByteArray} {maxL : Nat} {ret : Option FieldType} {rm : Room} {As : List Value} {h : Hp} {r : Option Value ⊕ Nat} {h1 : Hp} (hst : l.stackTraces = false) (hy : plainName y.cls = true) (hlen : (lg_sl As).length ≤ maxL)
    (body : ∀ p e s m below meth c H locs (ls : Array Slot), CY D cy s0 l p s m As.toArray meth c bytes maxL y.cls ret → meth.name = y.name → WS D cy s0 s h H locs → lv_has ls maxL (lv_args 0 As) → W p l e rm s m As.toArray below meth c H locs 0 0 (vx_MQ below (QX D cy s0 r h1) (XX D cy s0 r h1) As.toArray s rm.cells rm.slots (fun q => s0 ≤ q)) (F0 m 0 ls [])) : XT D cy s0 l y bytes maxL ret rm As h r h1 := by
  refine vx_ofW (cc := bytes) (maxL := maxL) (ret := ret) hy rfl ?_
  intro p e s m args below meth c s₁ B hml hE hv
  obtain ⟨rfl, ⟨hP, hK, hN⟩, hT⟩ := hv
  have hts := atoms_spec (ws := .code y bytes maxL ret :: GW) B.pre
  have hl := lv_entry As (n := maxL) hlen
  rw [lg_entry_eq]
  refine body p e s m below meth c s.heap [] _ ⟨⟨B.exec, B.bytes, hml, findClass_of_methodNamed B.named, fun w h => hts w (List.mem_cons_of_mem _ h), hK, hN, B.returns, B.notSynchronized, by rw [hP.1]; exact hP.2.1⟩, hT, hst, hE⟩ (name_of_methodNamed B.named B.method).1 ⟨hP, va_S.rf, by rw [hP.1]; exact hP.2.1⟩ hl
end VROWS
