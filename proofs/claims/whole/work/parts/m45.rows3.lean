section ROWS3
variable {p : Program} {l : Launch} {e : Env} {R : Room} {s : State} {m : MethodId} {args : Array Value} {below : List Frame} {meth : Method} {c : Code} {H : Heap} {locs : List Loc} {cells slots : Nat} {Q : State → Prop}
variable {cc : ByteArray} {pc : Nat} {ls : Array Slot} {rest : List Value} {D : va_G} {cy : Nat → ClassId} {s0 : Nat} {h : Hp} {nL : Nat} {own : String} {ret : Option FieldType}
theorem nA_I (h : Hp) (t n : Nat) : aI (nA h t n) (hZ h) = fun _ => 0 := by funext j; show (if hZ h = hZ h then 0 else _) = _; rw [if_pos rfl]
theorem nA_L (h : Hp) (t n : Nat) : aL (nA h t n) (hZ h) = fun _ => 0 := by funext j; show (if hZ h = hZ h then 0 else _) = _; rw [if_pos rfl]
theorem nA_R (h : Hp) (t n : Nat) : aR (nA h t n) (hZ h) = fun _ => none := by funext j; show (if hZ h = hZ h then none else _) = _; rw [if_pos rfl]
theorem mkA_s {h h1 : Hp} {t M : Nat} {n : Int32} (g : mkA h t n M = some h1) : ¬ n < 0 ∧ n.toNatClampNeg ≤ M ∧ h1 = nA h t n.toNatClampNeg := by
  unfold mkA at g; split at g
  · next q => exact ⟨q.1, q.2, (Option.some.inj g).symm⟩
  · cases g
theorem r_newa0 (C : CX D cy s0 p s m args meth c cc nL own ret) (hw : WS D cy s0 s h H locs) {t M : Nat} {n : Int32} {h1 : Hp} (hg : mkA h t n M = some h1) {atype : ArrayType} {ty : FieldType} {x0 : (Nat → Int32) ⊕ (Nat → Int64) ⊕ (Nat → UInt32) ⊕ (Nat → UInt64) ⊕ (Nat → Option Nat)} (hty : newarray.typeOf atype = ty) (hnr : ∀ E, ty ≠ .object E) (harr : Cond.arrayClass ty ∈ GW) (hE : (tyL cy)[t - 11]? = some (cy t, ty))
    (hce : ∀ n : Nat, cellE cy (nA h t n) (hZ h) (t, n) = .inl (cy t, n, x0)) (hdf : ∀ (cA : ClassId) (n : Nat), vp_cell cA (n, x0) = arrV cA n (fun _ => defaultValue ty))
    (hcells : cells + 1 ≤ R.cells) (hslots : slots + M ≤ R.slots) (hbytes : M * componentBytes ty ≤ 536870912) (hdg : decode cc pc = .ok (.newarray atype, 2))
    (kk : ∀ (H1 : Heap), WS D cy s0 s h1 H1 locs → W p l e R s m args below meth c H1 locs (cells + 1) (slots + M) Q (F0 m (pc + 2) ls (.ref (hZ h) :: rest))) : W p l e R s m args below meth c H locs cells slots Q (F0 m pc ls (.int n :: rest)) := by
  obtain ⟨hx, hb, -, hown, hts, hKv, -⟩ := C
  obtain ⟨g1, g2, rfl⟩ := mkA_s hg
  subst hty
  have hb2 : n.toNatClampNeg * componentBytes (newarray.typeOf atype) ≤ 536870912 := Nat.le_trans (Nat.mul_le_mul_right _ g2) hbytes
  refine va_newaK hx hb (hts _ harr) rfl hdg rfl g1 rfl hb2 hcells (Nat.le_trans (Nat.add_le_add_left g2 _) hslots) hw.1.1 fun H1 cA e1 z1 o1 hAr hNm => ?_
  have z1 : H1.size = H.size + 1 := by rw [z1, hw.1.1]
  have o1 : ∀ q : Nat, q < H.size → H1[q]? = H[q]? := fun q hq => o1 q (by rw [← hw.1.1]; exact hq)
  have hcA : cA = cy t := by
    have h3 := (hKv.2 (t - 11) _ hE).2
    have h4 : s.vm.findClass ("[" ++ (newarray.typeOf atype).toString) = some (cy t) := by
      revert h3
      cases atype <;> exact fun h3 => h3
    exact Option.some.inj (hNm.symm.trans h4)
  subst hcA
  refine W.widen (k := cells + 1) (n := slots + M) (Nat.le_refl _) (Nat.add_le_add_left g2 _) ?_
  refine kk H1 (hw.nw z1 o1 (hw.1.new (k0 := (t, n.toNatClampNeg)) rfl rfl (nA_same cy h t _) z1 o1 ?_))
  rw [hce]
  show H1[hZ h]? = some (vp_cell _ _)
  rw [hdf]
  exact e1
theorem r_newI (C : CX D cy s0 p s m args meth c cc nL own ret) (hw : WS D cy s0 s h H locs) {M : Nat} {n : Int32} {h1 : Hp} (hg : mkA h 11 n M = some h1) (harr : Cond.arrayClass .int ∈ GW) (hcells : cells + 1 ≤ R.cells) (hslots : slots + M ≤ R.slots) (hbytes : M * 4 ≤ 536870912) (hdg : decode cc pc = .ok (.newarray .int, 2))
    (kk : ∀ (H1 : Heap), WS D cy s0 s h1 H1 locs → W p l e R s m args below meth c H1 locs (cells + 1) (slots + M) Q (F0 m (pc + 2) ls (.ref (hZ h) :: rest))) : W p l e R s m args below meth c H locs cells slots Q (F0 m pc ls (.int n :: rest)) :=
  r_newa0 C hw hg (atype := .int) (ty := .int) rfl (fun _ h => by cases h) harr rfl (fun n => by rw [cellE_i cy _ _ (Or.inl rfl), nA_I]) (fun cA n => rfl) hcells hslots hbytes hdg kk
theorem r_newZ (C : CX D cy s0 p s m args meth c cc nL own ret) (hw : WS D cy s0 s h H locs) {M : Nat} {n : Int32} {h1 : Hp} (hg : mkA h 13 n M = some h1) (harr : Cond.arrayClass .boolean ∈ GW) (hcells : cells + 1 ≤ R.cells) (hslots : slots + M ≤ R.slots) (hbytes : M * 4 ≤ 536870912) (hdg : decode cc pc = .ok (.newarray .boolean, 2))
    (kk : ∀ (H1 : Heap), WS D cy s0 s h1 H1 locs → W p l e R s m args below meth c H1 locs (cells + 1) (slots + M) Q (F0 m (pc + 2) ls (.ref (hZ h) :: rest))) : W p l e R s m args below meth c H locs cells slots Q (F0 m pc ls (.int n :: rest)) :=
  r_newa0 C hw hg (atype := .boolean) (ty := .boolean) rfl (fun _ h => by cases h) harr rfl (fun n => by rw [cellE_i cy _ _ (Or.inr rfl), nA_I]) (fun cA n => rfl) hcells hslots (Nat.le_trans (Nat.mul_le_mul_left M (by decide)) hbytes) hdg kk
theorem r_newJ (C : CX D cy s0 p s m args meth c cc nL own ret) (hw : WS D cy s0 s h H locs) {M : Nat} {n : Int32} {h1 : Hp} (hg : mkA h 12 n M = some h1) (harr : Cond.arrayClass .long ∈ GW) (hcells : cells + 1 ≤ R.cells) (hslots : slots + M ≤ R.slots) (hbytes : M * 8 ≤ 536870912) (hdg : decode cc pc = .ok (.newarray .long, 2))
    (kk : ∀ (H1 : Heap), WS D cy s0 s h1 H1 locs → W p l e R s m args below meth c H1 locs (cells + 1) (slots + M) Q (F0 m (pc + 2) ls (.ref (hZ h) :: rest))) : W p l e R s m args below meth c H locs cells slots Q (F0 m pc ls (.int n :: rest)) :=
  r_newa0 C hw hg (atype := .long) (ty := .long) rfl (fun _ h => by cases h) harr rfl (fun n => by rw [cellE_l cy, nA_L]) (fun cA n => rfl) hcells hslots hbytes hdg kk
theorem r_newQ (C : CX D cy s0 p s m args meth c cc nL own ret) (hw : WS D cy s0 s h H locs) {t M index : Nat} {n : Int32} {h1 : Hp} (hg : mkA h t n M = some h1) (ht : 14 ≤ t) {E : String} (hE : (tyL cy)[t - 11]? = some (cy t, .object E)) (hlink : Cond.classLink own index E ∈ GW) (hover : va_AO E s) (hcells : cells + 1 ≤ R.cells) (hslots : slots + M ≤ R.slots) (hbytes : M * 4 ≤ 536870912) (hdg : decode cc pc = .ok (.anewarray index, 3))
    (kk : ∀ (H1 : Heap), WS D cy s0 s h1 H1 locs → W p l e R s m args below meth c H1 locs (cells + 1) (slots + M) Q (F0 m (pc + 3) ls (.ref (hZ h) :: rest))) : W p l e R s m args below meth c H locs cells slots Q (F0 m pc ls (.int n :: rest)) := by
  obtain ⟨hx, hb, -, hown, hts, hKv, -⟩ := C
  obtain ⟨g1, g2, rfl⟩ := mkA_s hg
  refine W.anew hx hb hown (hts _ hlink) (va_AO.use hover) rfl hdg rfl g1 (Nat.le_trans (Nat.mul_le_mul_right _ g2) hbytes) hcells (Nat.le_trans (Nat.add_le_add_left g2 _) hslots) fun cA kA comp f1 f2 f3 f4 => ?_
  generalize hH1 : H.push ({ cls := cA, slots := Array.replicate n.toNatClampNeg .null, vm := .none } : Cell) = H1
  have z1 : H1.size = H.size + 1 := by rw [← hH1, Array.size_push]
  have e1 : H1[H.size]? = some (arrV cA n.toNatClampNeg (fun _ => .null)) := by rw [← hH1, Array.getElem?_push_size, ← arrV_new]
  have o1 : ∀ q : Nat, q < H.size → H1[q]? = H[q]? := fun q hq => by rw [← hH1, Array.getElem?_push, if_neg (Nat.ne_of_lt hq)]
  have hcA : cA = cy t := by
    obtain ⟨kA2, comp2, -, -, -, h4⟩ := (hKv.2 (t - 11) _ hE).2
    exact Option.some.inj (f1.symm.trans h4)
  subst hcA
  rw [hw.1.1] at e1
  rw [hw.1.1]
  refine W.widen (k := cells + 1) (n := slots + M) (Nat.le_refl _) (Nat.add_le_add_left g2 _) ?_
  refine kk H1 (hw.nw z1 o1 (hw.1.new (k0 := (t, n.toNatClampNeg)) rfl rfl (nA_same cy h t _) z1 o1 ?_))
  rw [cellE_q cy _ _ ht, nA_R]
  show H1[hZ h]? = some (vp_cell _ _)
  rw [vp_cell_q]
  exact e1
/-! calls -/
theorem St.blind {av : List Value} : FrameBlind (va_Pc av (St D cy s0 h)) := fun a U g mk q => by
  obtain ⟨q0, q1, q2, q3⟩ := q
  exact ⟨q0, q1, va_K.moved (u := U) (U := U.calling g mk a) (Vm.Alike.refl U.vm) q2, q3.same (s := U) (U := U.calling g mk a) rfl⟩
theorem CX.st (C : CX D cy s0 p s m args meth c cc nL own ret) (hw : WS D cy s0 s h H locs) : ∀ U : State, U.heap = H → s.WarmedH U.vm → St D cy s0 h U := fun U hU hW => by
  obtain ⟨-, -, -, -, -, hKv, hN, -⟩ := C
  exact ⟨by rw [hU]; exact hw.1, va_K.moved hW.alike hKv, hN.warm hW⟩
theorem CX.fix (C : CX D cy s0 p s m args meth c cc nL own ret) : CallFix p m c cc nL s args GW own := ⟨C.1, C.2.1, C.2.2.1, C.2.2.2.1, C.2.2.2.2.1⟩
theorem r_back {y : MethodName} {mc ms : Nat} {g2 : JFrame} {st0 : List Value} {r : Option Value} {h1 : Hp} {a : Array Value} (hw : WS D cy s0 s h H locs) (hr : va_Run p l e R s m args below meth c H locs cells slots mc ms (F0 m pc ls st0) rest (QQ D cy s0 r h1 a) (fun q => s0 ≤ q))
    (kk : ∀ (H1 : Heap) (locs1 : List Loc), WS D cy s0 s h1 H1 locs1 → W p l e R s m args below meth c H1 locs1 (cells + mc) (slots + ms) Q (F0 m (pc + 3) ls (r.toList ++ rest))) : W p l e R s m args below meth c H locs cells slots Q (F0 m pc ls st0) := by
  intro T hT X
  obtain ⟨v, st₀, t, T', L, h0, X', hL, e1, e2, ⟨hv, hh, hz, hk⟩, st⟩ := hr T hT X
  cases hv
  rw [h0] at hz hk
  obtain ⟨t2, a1, b1⟩ := kk T'.heap (locs ++ L) ⟨by rw [e1]; exact hh, ⟨Nat.le_trans hw.2.1.1 (by rw [e1]; exact hz), fun q h1 h2 => by rw [e1, hk q (Nat.lt_of_lt_of_le h1 hw.2.1.1) h2]; exact hw.2.1.2.1 q h1 h2, fun q hq => by
      rcases List.mem_append.mp hq with h | h
      · exact hw.2.1.2.2 q h
      · exact hL q h⟩, hw.2.2⟩ T' rfl X'
  exact ⟨t2, st t2 a1, b1⟩
theorem r_callV (C : CX D cy s0 p s m args meth c cc nL own ret) (hw : WS D cy s0 s h H locs) {y : MethodName} {bytes : ByteArray} {maxL n index b ci : Nat} {ret2 : Option FieldType} {rm : Room} {As : List Value} {r : Option Value} {h1 : Hp} {Cn : String} {T : u_T} {N : Nat} {ty : Nat → FieldType} (hM : MT D cy s0 l y bytes maxL ret2 rm (.ref b :: As) h r h1) (mk : MK y bytes maxL ret2 n) (ck : CK ci Cn T N ty) (hy : y.cls = Cn) (kb : hK h b = some (ci, 0))
    (hl : Cond.methodLink own index y ∈ GW) (hi : Cond.instanceMethod y ∈ GW) (hs : Cond.selects y.cls y y ∈ GW) (hR : rm.frames + 1 ≤ R.frames ∧ 8 + (maxL + 11) + rm.locals ≤ R.locals) (hn : As.length = n) (hsize : ls.size = nL) {st0 : List Value} (hstack : st0 = As.reverse ++ .ref b :: rest) (hW : (rest.map fun v => v.category).sum ≤ 8) (hdg : decode cc pc = .ok (.invokevirtual index, 3)) {mc ms : Nat} (hmc : rm.cells = mc) (hms : rm.slots = ms) (hf : cells + mc ≤ R.cells ∧ slots + ms ≤ R.slots)
    (kk : ∀ (H1 : Heap) (locs1 : List Loc), WS D cy s0 s h1 H1 locs1 → W p l e R s m args below meth c H1 locs1 (cells + mc) (slots + ms) Q (F0 m (pc + 3) ls (r.toList ++ rest))) : W p l e R s m args below meth c H locs cells slots Q (F0 m pc ls st0) := by
  subst hstack
  subst hmc; subst hms
  have hts := C.2.2.2.2.1
  have hKv := C.2.2.2.2.2.1
  subst hy
  refine r_back (y := y) (g2 := F0 m pc ls []) hw (va_runV (C := y.cls) (b := b) (n := n) (ret := ret2) (bytes := bytes) (maxL := maxL) (index := index) C.fix hM ⟨callB_of n hts (gw_self mk.1) rfl rfl rfl (hts _ mk.2.1) (hts _ hl) mk.2.2 hR, hts _ hi, hts _ hs⟩ ⟨St.blind, ?_, fun U hU hW => ⟨rfl, C.st hw U hU hW⟩⟩ rfl hn hsize rfl (by simpa using hW) hdg hf) kk
  obtain ⟨r', g1, cell, q1, q2, q3, -⟩ := (hw.1.one kb (cellE_o cy h b ck.2.2.2.2.2.1)) 0 _ rfl
  exact ⟨cell, q1, by rw [q3]; rfl, by rw [q2]; exact (hKv.1 ci _ ck.1).2.1⟩
theorem r_callS (C : CX D cy s0 p s m args meth c cc nL own ret) (hw : WS D cy s0 s h H locs) {y : MethodName} {bytes : ByteArray} {maxL n index : Nat} {ret2 : Option FieldType} {rm : Room} {As : List Value} {r : Option Value} {h1 : Hp} (hM : MT D cy s0 l y bytes maxL ret2 rm As h r h1) (mk : MK y bytes maxL ret2 n)
    (hl : Cond.methodLink own index y ∈ GW) (hi : Cond.static y ∈ GW) (hR : rm.frames + 1 ≤ R.frames ∧ 8 + (maxL + 11) + rm.locals ≤ R.locals) (hn : As.length = n) (hsize : ls.size = nL) {st0 : List Value} (hstack : st0 = As.reverse ++ rest) (hW : (rest.map fun v => v.category).sum ≤ 8) (hdg : decode cc pc = .ok (.invokestatic index, 3)) {mc ms : Nat} (hmc : rm.cells = mc) (hms : rm.slots = ms) (hf : cells + mc ≤ R.cells ∧ slots + ms ≤ R.slots)
    (kk : ∀ (H1 : Heap) (locs1 : List Loc), WS D cy s0 s h1 H1 locs1 → W p l e R s m args below meth c H1 locs1 (cells + mc) (slots + ms) Q (F0 m (pc + 3) ls (r.toList ++ rest))) : W p l e R s m args below meth c H locs cells slots Q (F0 m pc ls st0) := by
  subst hstack
  subst hmc; subst hms
  have hts := C.2.2.2.2.1
  exact r_back (y := y) (g2 := F0 m pc ls []) hw (va_runS (n := n) (ret := ret2) (bytes := bytes) (maxL := maxL) (index := index) C.fix hM ⟨callB_of n hts (gw_self mk.1) rfl rfl rfl (hts _ mk.2.1) (hts _ hl) mk.2.2 hR, hts _ hi⟩ ⟨St.blind, fun U hU hW => ⟨rfl, C.st hw U hU hW⟩⟩ rfl hn hsize rfl (by simpa using hW) hdg hf) kk
theorem r_callI (C : CX D cy s0 p s m args meth c cc nL own ret) (hw : WS D cy s0 s h H locs) {y : MethodName} {bytes : ByteArray} {maxL n index b : Nat} {rm : Room} {As : List Value} {h1 : Hp} (hM : MT D cy s0 l y bytes maxL none rm (.ref b :: As) h none h1) (mk : MK y bytes maxL none n) (hy : y.name = "<init>")
    (hl : Cond.methodLink own index y ∈ GW) (hi : Cond.instanceMethod y ∈ GW) (hR : rm.frames + 1 ≤ R.frames ∧ 8 + (maxL + 11) + rm.locals ≤ R.locals) (hn : As.length = n) (hsize : ls.size = nL) {st0 : List Value} (hstack : st0 = As.reverse ++ .ref b :: rest) (hW : (rest.map fun v => v.category).sum ≤ 8) (hdg : decode cc pc = .ok (.invokespecial index, 3)) {mc ms : Nat} (hmc : rm.cells = mc) (hms : rm.slots = ms) (hf : cells + mc ≤ R.cells ∧ slots + ms ≤ R.slots)
    (kk : ∀ (H1 : Heap) (locs1 : List Loc), WS D cy s0 s h1 H1 locs1 → W p l e R s m args below meth c H1 locs1 (cells + mc) (slots + ms) Q (F0 m (pc + 3) ls rest)) : W p l e R s m args below meth c H locs cells slots Q (F0 m pc ls st0) := by
  subst hstack
  subst hmc; subst hms
  have hts := C.2.2.2.2.1
  exact r_back (y := y) (g2 := F0 m pc ls []) (r := none) hw (va_runI (n := n) (b := b) (bytes := bytes) (maxL := maxL) (index := index) C.fix hM ⟨callB_of n hts (gw_self mk.1) rfl rfl rfl (hts _ mk.2.1) (hts _ hl) mk.2.2 hR, hy, hts _ hi⟩ ⟨St.blind, fun U hU hW => ⟨rfl, C.st hw U hU hW⟩⟩ rfl hn hsize rfl (by simpa using hW) hdg hf) kk
theorem r_callIN (C : CX D cy s0 p s m args meth c cc nL own ret) (hw : WS D cy s0 s h H locs) {y : MethodName} {bytes : ByteArray} {maxL n index b : Nat} {rm : Room} {As : List Value} {h1 : Hp} {host : String} (hM : MT D cy s0 l y bytes maxL none rm (.ref b :: As) h none h1) (mk : MK y bytes maxL none n) (hy : y.name = "<init>")
    (hl : Cond.methodLinkNest own index y host ∈ NW) (hi : Cond.instanceMethod y ∈ GW) (hR : rm.frames + 1 ≤ R.frames ∧ 8 + (maxL + 11) + rm.locals ≤ R.locals) (hn : As.length = n) (hsize : ls.size = nL) {st0 : List Value} (hstack : st0 = As.reverse ++ .ref b :: rest) (hW : (rest.map fun v => v.category).sum ≤ 8) (hdg : decode cc pc = .ok (.invokespecial index, 3)) {mc ms : Nat} (hmc : rm.cells = mc) (hms : rm.slots = ms) (hf : cells + mc ≤ R.cells ∧ slots + ms ≤ R.slots)
    (kk : ∀ (H1 : Heap) (locs1 : List Loc), WS D cy s0 s h1 H1 locs1 → W p l e R s m args below meth c H1 locs1 (cells + mc) (slots + ms) Q (F0 m (pc + 3) ls rest)) : W p l e R s m args below meth c H locs cells slots Q (F0 m pc ls st0) := by
  subst hstack
  subst hmc; subst hms
  have hts := C.2.2.2.2.1
  have hN := C.2.2.2.2.2.2.1
  exact r_back (y := y) (g2 := F0 m pc ls []) (r := none) hw (va_runIN (n := n) (b := b) (bytes := bytes) (maxL := maxL) (index := index) (host := host) C.fix hM ⟨va_cnB n hts (gw_self mk.1) rfl rfl rfl (hN.1 _ hl) (hts _ mk.2.1) mk.2.2 hR, hy, hts _ hi⟩ ⟨St.blind, fun U hU hW => ⟨rfl, C.st hw U hU hW⟩⟩ rfl hn hsize rfl (by simpa using hW) hdg hf) kk
theorem r_callSN (C : CX D cy s0 p s m args meth c cc nL own ret) (hw : WS D cy s0 s h H locs) {y : MethodName} {bytes : ByteArray} {maxL n index : Nat} {ret2 : Option FieldType} {rm : Room} {As : List Value} {r : Option Value} {h1 : Hp} {host : String} (hM : MT D cy s0 l y bytes maxL ret2 rm As h r h1) (mk : MK y bytes maxL ret2 n)
    (hl : Cond.methodLinkNest own index y host ∈ NW) (hi : Cond.static y ∈ GW) (hR : rm.frames + 1 ≤ R.frames ∧ 8 + (maxL + 11) + rm.locals ≤ R.locals) (hn : As.length = n) (hsize : ls.size = nL) {st0 : List Value} (hstack : st0 = As.reverse ++ rest) (hW : (rest.map fun v => v.category).sum ≤ 8) (hdg : decode cc pc = .ok (.invokestatic index, 3)) {mc ms : Nat} (hmc : rm.cells = mc) (hms : rm.slots = ms) (hf : cells + mc ≤ R.cells ∧ slots + ms ≤ R.slots)
    (kk : ∀ (H1 : Heap) (locs1 : List Loc), WS D cy s0 s h1 H1 locs1 → W p l e R s m args below meth c H1 locs1 (cells + mc) (slots + ms) Q (F0 m (pc + 3) ls (r.toList ++ rest))) : W p l e R s m args below meth c H locs cells slots Q (F0 m pc ls st0) := by
  subst hstack
  subst hmc; subst hms
  have hts := C.2.2.2.2.1
  have hN := C.2.2.2.2.2.2.1
  exact r_back (y := y) (g2 := F0 m pc ls []) hw (va_runSN (n := n) (ret := ret2) (bytes := bytes) (maxL := maxL) (index := index) (host := host) C.fix hM ⟨va_cnB n hts (gw_self mk.1) rfl rfl rfl (hN.1 _ hl) (hts _ mk.2.1) mk.2.2 hR, hts _ hi, trivial⟩ ⟨St.blind, fun U hU hW => ⟨rfl, C.st hw U hU hW⟩⟩ rfl hn hsize rfl (by simpa using hW) hdg hf) kk
/-! ends -/
theorem q_end (hw : WS D cy s0 s h H locs) {r : Option Value} : ∀ t : State, t.heap = H → s.WarmedH t.vm → QQ D cy s0 r h args s (.returned r) t := fun t ht _ => ⟨rfl, by rw [ht]; exact hw.1, hw.2.1.F ht⟩
theorem r_iret (C : CX D cy s0 p s m args meth c cc nL own ret) (hw : WS D cy s0 s h H locs) {v : Int32} {ty : FieldType} (hr : ret = some ty) (hn : narrow ty (.int v) = .int v) {mc ms : Nat} (hc : cells ≤ mc) (hs : slots ≤ ms) (hdg : decode cc pc = .ok (.ireturn, 1)) : W p l e R s m args below meth c H locs cells slots (MQ below (QQ D cy s0 (some (.int v)) h) args s mc ms (fun q => s0 ≤ q)) (F0 m pc ls [.int v]) := by
  obtain ⟨hx, hb, -, -, -, -, -, hrt, hlk, -⟩ := C
  exact W.widen hc hs (W.zret hx hb (hrt.trans hr) hn (q_end hw) hw.2.1.2.2 hdg hlk)
theorem r_lret (C : CX D cy s0 p s m args meth c cc nL own ret) (hw : WS D cy s0 s h H locs) {v : Int64} (hr : ret = some .long) {mc ms : Nat} (hc : cells ≤ mc) (hs : slots ≤ ms) (hdg : decode cc pc = .ok (.lreturn, 1)) : W p l e R s m args below meth c H locs cells slots (MQ below (QQ D cy s0 (some (.long v)) h) args s mc ms (fun q => s0 ≤ q)) (F0 m pc ls [.long v]) := by
  obtain ⟨hx, hb, -, -, -, -, -, hrt, hlk, -⟩ := C
  exact W.widen hc hs (W.lret hx hb (hrt.trans hr) (q_end hw) hw.2.1.2.2 hdg hlk)
theorem r_aret (C : CX D cy s0 p s m args meth c cc nL own ret) (hw : WS D cy s0 s h H locs) {v : Option Nat} {vv : Value} (hv : va_rf v = vv) {ty : FieldType} (hr : ret = some ty) (hty : (∃ n, ty = .object n) ∨ ∃ t, ty = .array t) {mc ms : Nat} (hc : cells ≤ mc) (hs : slots ≤ ms) (hdg : decode cc pc = .ok (.areturn, 1)) : W p l e R s m args below meth c H locs cells slots (MQ below (QQ D cy s0 (some (va_rf v)) h) args s mc ms (fun q => s0 ≤ q)) (F0 m pc ls [vv]) := by
  obtain ⟨hx, hb, -, -, -, -, -, hrt, hlk, -⟩ := C
  subst hv
  exact W.widen hc hs (W.aret hx hb (hrt.trans hr) hty (va_rf_or v) (q_end hw) hw.2.1.2.2 hdg hlk)
theorem r_vret (C : CX D cy s0 p s m args meth c cc nL own ret) (hw : WS D cy s0 s h H locs) (hr : ret = none) {mc ms : Nat} (hc : cells ≤ mc) (hs : slots ≤ ms) (hdg : decode cc pc = .ok (.return_, 1)) : W p l e R s m args below meth c H locs cells slots (MQ below (QQ D cy s0 none h) args s mc ms (fun q => s0 ≤ q)) (F0 m pc ls []) := by
  obtain ⟨hx, hb, -, -, -, -, -, hrt, hlk, -⟩ := C
  exact W.widen hc hs (W.vret hx hb (hrt.trans hr) (q_end hw) hw.2.1.2.2 hdg hlk)
/-- a method's contract out of its body's walk -/
theorem MT.of {y : MethodName} {bytes : ByteArray} {maxL : Nat} {ret : Option FieldType} {rm : Room} {As : List Value} {h : Hp} {r : Option Value} {h1 : Hp} (hy : plainName y.cls = true) (hlen : (lg_sl As).length ≤ maxL)
    (body : ∀ p e s m below meth c H locs (ls : Array Slot), CX D cy s0 p s m As.toArray meth c bytes maxL y.cls ret → meth.name = y.name → WS D cy s0 s h H locs → lv_has ls maxL (lv_args 0 As) → W p l e rm s m As.toArray below meth c H locs 0 0 (MQ below (QQ D cy s0 r h1) As.toArray s rm.cells rm.slots (fun q => s0 ≤ q)) (F0 m 0 ls [])) : MT D cy s0 l y bytes maxL ret rm As h r h1 := by
  refine Met.ofW (cc := bytes) (maxL := maxL) (ret := ret) hy rfl ?_
  intro p e s m args below meth c s₁ B hml hv
  obtain ⟨rfl, hP, hK, hN⟩ := hv
  have hts := atoms_spec (ws := .code y bytes maxL ret :: GW) B.pre
  have hl := lv_entry As (n := maxL) hlen
  rw [lg_entry_eq]
  refine body p e s m below meth c s.heap [] _ ⟨B.exec, B.bytes, hml, findClass_of_methodNamed B.named, fun w h => hts w (List.mem_cons_of_mem _ h), hK, hN, B.returns, B.notSynchronized, by rw [hP.1]; exact hP.2.1⟩ (name_of_methodNamed B.named B.method).1 ⟨hP, va_S.rf, by rw [hP.1]; exact hP.2.1⟩ hl
theorem r_newN (C : CX D cy s0 p s m args meth c cc nL own ret) (hw : WS D cy s0 s h H locs) {ci index N : Nat} {h1 : Hp} (hg : nwO h ci = some h1) {Cn : String} {T : u_T} {ty : Nat → FieldType} (ck : CK ci Cn T N ty) (hlink : Cond.classLink own index Cn ∈ GW) (hcells : cells + 1 ≤ R.cells) (hslots : slots + N ≤ R.slots) (hdg : decode cc pc = .ok (.new index, 3))
    (kk : ∀ (H1 : Heap), WS D cy s0 s h1 H1 locs → W p l e R s m args below meth c H1 locs (cells + 1) (slots + N) Q (F0 m (pc + 3) ls (.ref (hZ h) :: rest))) : W p l e R s m args below meth c H locs cells slots Q (F0 m pc ls rest) := by
  cases hg
  exact r_new C hw ck hlink hcells hslots hdg kk
theorem ig {β : Type} {c : Prop} [Decidable c] {A : Option β} {r : β} (h : (if c then A else none) = some r) : c ∧ A = some r := by
  split at h
  · next q => exact ⟨q, h⟩
  · cases h
theorem sp {α : Type} {a c : α} {b d : Hp} (h : some (a, b) = some (c, d)) : c = a ∧ d = b := by
  have h1 := Option.some.inj h
  exact ⟨(congrArg Prod.fst h1).symm, (congrArg Prod.snd h1).symm⟩
theorem nz {v : Int32} (h : v = 0 ∨ v = 1) : narrow .boolean (.int v) = .int v := by rcases h with rfl | rfl <;> rfl
theorem tsw_out {x : Int32} (lo : Int) (vs : List Int32) (hvs : ∀ k : Nat, k < vs.length → vs[k]? = some (Int32.ofInt (lo + k))) (h : ∀ v ∈ vs, ¬ x = v) : x.toInt < lo ∨ lo + vs.length - 1 < x.toInt := by
  by_cases h1 : x.toInt < lo
  · exact Or.inl h1
  · refine Or.inr (Int.not_le.mp fun h2 => ?_)
    have hk : (x.toInt - lo).toNat < vs.length := by omega
    have h3 := hvs _ hk
    have h4 : lo + ((x.toInt - lo).toNat : Int) = x.toInt := by omega
    rw [h4, Int32.ofInt_toInt] at h3
    exact h _ (List.mem_of_getElem? h3) rfl
end ROWS3
