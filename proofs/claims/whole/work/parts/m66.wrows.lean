/-! ===== the law's own catching methods ===== -/
def QZ (D : va_G) (cy : Nat → ClassId) (s0 : Nat) (r : Option Value) (h : Hp) : Array Value → State → Outcome → State → Prop := fun a st o t => ∃ z, hZ h ≤ z ∧ QQ D cy s0 r (zH h z) a st o t
def WT (D : va_G) (cy : Nat → ClassId) (s0 : Nat) (l : Launch) (y : MethodName) (bytes : ByteArray) (maxL : Nat) (ret : Option FieldType) (hh : List (Nat × Nat × Nat × Nat)) (rm : Room) (As : List Value) (h : Hp) (r : Option Value) (h1 : Hp) : Prop :=
  Met l y (.codeWith y bytes maxL ret hh :: GW) rm (va_Pc As (StX D cy s0 h)) (QZ D cy s0 r h1) rm.cells rm.slots (fun q => s0 ≤ q)
theorem obc {α β : Type} {o : Option ((α ⊕ Nat) × Hp)} {k : α → Hp → Option β} {x : Nat → Hp → Option β} {r : β} (h : bdc o k x = some r) : (∃ v h1, o = some (.inl v, h1) ∧ k v h1 = some r) ∨ ∃ e h1, o = some (.inr e, h1) ∧ x e h1 = some r := by
  cases o with
  | none => cases h
  | some y =>
    obtain ⟨y, h1⟩ := y
    cases y with
    | inl v => exact Or.inl ⟨v, h1, rfl, h⟩
    | inr e => exact Or.inr ⟨e, h1, rfl, h⟩
theorem inr_inl {k : Nat} {v : Option Value} {P : Prop} (h : (Sum.inr k : Option Value ⊕ Nat) = Sum.inl v) : P := by cases h
theorem inr_inr {k k2 : Nat} (h : (Sum.inr k : Option Value ⊕ Nat) = Sum.inr k2) : k2 = k := by cases h; rfl
section WROWS
variable {p : Program} {l : Launch} {e : Env} {R : Room} {s : State} {m : MethodId} {args : Array Value} {below : List Frame} {meth : Method} {c : Code} {H : Heap} {locs : List Loc} {cells slots : Nat} {Q : State → Prop}
variable {cc : ByteArray} {pc : Nat} {ls : Array Slot} {rest : List Value} {D : va_G} {cy : Nat → ClassId} {s0 : Nat} {h : Hp} {nL : Nat} {own : String} {ret : Option FieldType}
theorem z_iret (C : CX D cy s0 p s m args meth c cc nL own ret) {z : Nat} (hz : hZ h ≤ z) (hw : WS D cy s0 s (zH h z) H locs) {v : Int32} {ty : FieldType} (hr : ret = some ty) (hn : narrow ty (.int v) = .int v) {mc ms : Nat} (hc : cells ≤ mc) (hs : slots ≤ ms) (hdg : decode cc pc = .ok (.ireturn, 1)) : W p l e R s m args below meth c H locs cells slots (MQ below (QZ D cy s0 (some (.int v)) h) args s mc ms (fun q => s0 ≤ q)) (F0 m pc ls [.int v]) := by
  obtain ⟨hx, hb, -, -, -, -, -, hrt, hlk, -⟩ := C
  exact W.widen hc hs (W.zret hx hb (hrt.trans hr) hn (fun t ht hW => ⟨z, hz, q_end hw t ht hW⟩) hw.2.1.2.2 hdg hlk)
theorem zH_self (h : Hp) : zH h (hZ h) = h := rfl
theorem WT.of {y : MethodName} {bytes : ByteArray} {maxL : Nat} {ret : Option FieldType} {hh : List (Nat × Nat × Nat × Nat)} {rm : Room} {As : List Value} {h : Hp} {r : Option Value} {h1 : Hp} (hy : plainName y.cls = true) (hlen : (lg_sl As).length ≤ maxL)
    (body : ∀ p e s m below meth c H locs (ls : Array Slot), CX D cy s0 p s m As.toArray meth c bytes maxL y.cls ret → TS s0 s → c.exceptionTable.toList = tableOf hh → WS D cy s0 s h H locs → lv_has ls maxL (lv_args 0 As) → W p l e rm s m As.toArray below meth c H locs 0 0 (MQ below (QZ D cy s0 r h1) As.toArray s rm.cells rm.slots (fun q => s0 ≤ q)) (F0 m 0 ls [])) : WT D cy s0 l y bytes maxL ret hh rm As h r h1 := by
  unfold WT Met
  refine MetFree.of_bodyS (code := bytes) (maxLocals := maxL) (ret := ret) hy ?_ ?_
  · intro args s m h hn
    obtain ⟨m9, meth, c, hn9, h1, h2, h3, h4, -, h5, h6, -⟩ := Cond.codeWith_spec (atoms_spec (ws := .codeWith y bytes maxL ret hh :: GW) h _ List.mem_cons_self)
    cases hn.symm.trans hn9
    exact ⟨meth, c, h1, h2, h3, h4, h5, h6⟩
  · intro p e s m args below meth c s₁ B hml hP _
    have hh0 : s₁.heap = s.heap := by rw [B.state]; rfl
    obtain ⟨rfl, ⟨hP, hK, hN⟩, hT⟩ := hP
    have hts := atoms_spec (ws := .codeWith y bytes maxL ret hh :: GW) B.pre
    have hl := lv_entry As (n := maxL) hlen
    have hE := vx_table (x := y) B (hts _ List.mem_cons_self)
    have hbody := body p e s m below meth c s.heap [] _ ⟨B.exec, B.bytes, hml, findClass_of_methodNamed B.named, fun w h => hts w (List.mem_cons_of_mem _ h), hK, hN, B.returns, B.notSynchronized, by rw [hP.1]; exact hP.2.1⟩ hT hE ⟨hP, va_S.rf, by rw [hP.1]; exact hP.2.1⟩ hl
    rw [← lg_entry_eq] at hbody
    obtain ⟨t, a1, o, b1, b2, b3⟩ := hbody s₁ hh0 (Stand.of_body B)
    exact ⟨t, o, a1, b1, b2, ⟨b3.1, b3.2⟩⟩
/-- a call of such a method -/
theorem r_callW (C : CX D cy s0 p s m args meth c cc nL own ret) (hT : TS s0 s) (hw : WS D cy s0 s h H locs) {y : MethodName} {bytes : ByteArray} {maxL n index : Nat} {ret2 : Option FieldType} {hh : List (Nat × Nat × Nat × Nat)} {rm : Room} {As : List Value} {r : Option Value} {h1 : Hp} (hM : WT D cy s0 l y bytes maxL ret2 hh rm As h r h1) (hcw : Cond.codeWith y bytes maxL ret2 hh ∈ GW) (hini : Cond.initialized y.cls ∈ GW)
    (hd : y.cls ≠ "java/lang/invoke/MethodHandle" ∧ y.cls ≠ "java/lang/invoke/VarHandle" ∧ (parseMethodDescriptor y.desc).map (fun d => d.parameters.length) = some n) (hl : Cond.methodLink own index y ∈ GW) (hi : Cond.static y ∈ GW) (hR : rm.frames + 1 ≤ R.frames ∧ 8 + (maxL + 11) + rm.locals ≤ R.locals) (hn : As.length = n) (hsize : ls.size = nL) {st0 : List Value} (hstack : st0 = As.reverse ++ rest) (hW : (rest.map fun v => v.category).sum ≤ 8) (hdg : decode cc pc = .ok (.invokestatic index, 3)) {mc ms : Nat} (hmc : rm.cells = mc) (hms : rm.slots = ms) (hf : cells + mc ≤ R.cells ∧ slots + ms ≤ R.slots)
    (kk : ∀ (z : Nat), hZ h1 ≤ z → ∀ (H1 : Heap) (locs1 : List Loc), WS D cy s0 s (zH h1 z) H1 locs1 → W p l e R s m args below meth c H1 locs1 (cells + mc) (slots + ms) Q (F0 m (pc + 3) ls (r.toList ++ rest))) : W p l e R s m args below meth c H locs cells slots Q (F0 m pc ls st0) := by
  subst hstack
  subst hmc; subst hms
  have hts := C.2.2.2.2.1
  have hrun := vx_runSW (n := n) (ret := ret2) (bytes := bytes) (maxL := maxL) (index := index) (hh := hh) (p := p) (e := e) (R := R) (meth := meth) (below := below) (locs := locs) (cells := cells) (slots := slots) (rest := rest) (g := F0 m pc ls (As.reverse ++ rest)) C.fix hM ⟨⟨rfl, rfl, hR.1, hR.2, pay_in hts (gw_self hcw), List.mem_cons_self⟩, hts _ hcw, hts _ hini, ⟨hd.1, hd.2.1⟩, fun sig h => by
      have h2 := hd.2.2
      rw [h] at h2
      exact (Option.some.inj h2).symm, hts _ hl, hts _ hi⟩ ⟨StX.blind, fun U hU hW => ⟨rfl, C.st hw U hU hW, hT.moves hw.2.1 hU hW⟩⟩ rfl hn hsize rfl (by simpa using hW) hdg hf
  intro T hT X
  obtain ⟨v, st₀, t, T', L, h0, X', hL, e1, e2, ⟨z, hz, hv, hh, hF⟩, st⟩ := hrun T hT X
  cases hv
  obtain ⟨k1, k2, k3⟩ := vx_keep h0 e1 hw.2.1 (fun _ _ h => h) (fun _ h => h) hL hF
  obtain ⟨t2, a1, b1⟩ := kk z hz T'.heap (locs ++ L) ⟨by rw [e1]; exact hh, k3, hw.2.2⟩ T' rfl X'
  exact ⟨t2, st t2 a1, b1⟩
end WROWS
