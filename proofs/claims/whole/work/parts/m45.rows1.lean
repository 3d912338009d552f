/-! ===== the words that every method may ask for; the tables of the classes ===== -/
def fv (h : Hp) (ci j a : Nat) : Value := match fk ci j with
  | 0 => .int (hI h (gq ci j) a)
  | 1 => .long (hL h (gq ci j) a)
  | _ => va_rf (hR h (gq ci j) a)
def cellE (cy : Nat → ClassId) (h : Hp) (a : Nat) (k : Nat × Nat) : va_E :=
  if k.1 < 11 then .inr (k.1, (List.range (nf k.1)).map (fun j => fv h k.1 j a))
  else if k.1 = 12 then .inl (cy 12, k.2, .inr (.inl (aL h a)))
  else if k.1 < 14 then .inl (cy k.1, k.2, .inl (aI h a))
  else .inl (cy k.1, k.2, .inr (.inr (.inr (.inr (aR h a)))))
/-- the heap H holds what h says; nothing of it lies below s0 -/
def HS (D : va_G) (cy : Nat → ClassId) (s0 : Nat) (h : Hp) (H : Heap) : Prop :=
  H.size = hZ h ∧ s0 ≤ hZ h ∧ ∀ a k, hK h a = some k → s0 ≤ a ∧ va_at D vwCl (a, cellE cy h a k) H
/-- .. and since the method's start nothing below s0 was written -/
def WS (D : va_G) (cy : Nat → ClassId) (s0 : Nat) (s : State) (h : Hp) (H : Heap) (locs : List Loc) : Prop :=
  HS D cy s0 h H ∧ va_S (fun q => s0 ≤ q) s.heap H locs ∧ s0 ≤ s.heap.size
/-- what the tables say that is no steady word: private constructors of nest mates, arrays of objects -/
def NXm (U : State) : Prop := (∀ w ∈ NW, va_Nw w U) ∧ va_AO "RaftRegistry$Entry" U ∧ va_AO "RaftRegistry$Message" U ∧ va_AO "RaftRegistry$Node" U
theorem NXm.warm {s U : State} (hW : s.WarmedH U.vm) (h : NXm s) : NXm U := by
  refine ⟨fun w hw => ?_, h.2.1.moved hW.alike, h.2.2.1.moved hW.alike, h.2.2.2.moved hW.alike⟩
  have h1 := h.1 w hw
  obtain ⟨a, i, x, b, rfl⟩ := NW_form w hw
  exact h1.warmM hW
theorem NXm.same {s U : State} (hv : s.vm = U.vm) (h : NXm s) : NXm U := by
  refine ⟨fun w hw => ?_, h.2.1.moved (by rw [hv]; exact Vm.Alike.refl _), h.2.2.1.moved (by rw [hv]; exact Vm.Alike.refl _), h.2.2.2.moved (by rw [hv]; exact Vm.Alike.refl _)⟩
  have h1 := h.1 w hw
  obtain ⟨a, i, x, b, rfl⟩ := NW_form w hw
  exact h1.same rfl hv
def St (D : va_G) (cy : Nat → ClassId) (s0 : Nat) (h : Hp) (U : State) : Prop :=
  HS D cy s0 h U.heap ∧ va_K D vwCl (tyL cy) U ∧ NXm U
def QQ (D : va_G) (cy : Nat → ClassId) (s0 : Nat) (r : Option Value) (h : Hp) : Array Value → State → Outcome → State → Prop := fun _ st o t =>
  o = .returned r ∧ HS D cy s0 h t.heap ∧ va_F (fun q => s0 ≤ q) st t
/-- a method's contract: from the picture h to the picture h1, with the answer r -/
def MT (D : va_G) (cy : Nat → ClassId) (s0 : Nat) (l : Launch) (y : MethodName) (bytes : ByteArray) (maxL : Nat) (ret : Option FieldType) (rm : Room) (As : List Value) (h : Hp) (r : Option Value) (h1 : Hp) : Prop :=
  Met l y (.code y bytes maxL ret :: GW) rm (va_Pc As (St D cy s0 h)) (QQ D cy s0 r h1) rm.cells rm.slots (fun q => s0 ≤ q)
/-- inside a method's body -/
def CX (D : va_G) (cy : Nat → ClassId) (s0 : Nat) (p : Program) (s : State) (m : MethodId) (args : Array Value) (meth : Method) (c : Code) (cc : ByteArray) (nL : Nat) (own : String) (ret : Option FieldType) : Prop :=
  p.tables.exec = Jvm.exec ∧ c.code = cc ∧ c.maxLocals = nL ∧ s.vm.findClass own = some m.cls ∧ (∀ w ∈ GW, w.before args s = true) ∧ va_K D vwCl (tyL cy) s ∧ NXm s ∧ meth.sig.returnType = ret ∧ meth.locks = false ∧ s0 ≤ s.heap.size
theorem HS.one {D : va_G} {cy : Nat → ClassId} {s0 : Nat} {h : Hp} {H : Heap} (hh : HS D cy s0 h H) {a : Nat} {k : Nat × Nat} (ha : hK h a = some k) {e : va_E} (he : cellE cy h a k = e) : va_P D vwCl [(a, e)] H := by
  intro j q hj
  have hz : j < 1 := (List.getElem?_eq_some_iff.mp hj).1
  rw [show j = 0 by omega] at hj
  cases hj
  subst he
  exact (hh.2.2 a k ha).2
theorem cellE_o (cy : Nat → ClassId) (h : Hp) (a : Nat) {ci n : Nat} (hc : ci < 11) : cellE cy h a (ci, n) = .inr (ci, (List.range (nf ci)).map (fun j => fv h ci j a)) := by simp [cellE, hc]
theorem cellE_i (cy : Nat → ClassId) (h : Hp) (a : Nat) {t n : Nat} (ht : t = 11 ∨ t = 13) : cellE cy h a (t, n) = .inl (cy t, n, .inl (aI h a)) := by
  rcases ht with rfl | rfl <;> simp [cellE]
theorem cellE_l (cy : Nat → ClassId) (h : Hp) (a : Nat) {n : Nat} : cellE cy h a (12, n) = .inl (cy 12, n, .inr (.inl (aL h a))) := by simp [cellE]
theorem cellE_q (cy : Nat → ClassId) (h : Hp) (a : Nat) {t n : Nat} (ht : 14 ≤ t) : cellE cy h a (t, n) = .inl (cy t, n, .inr (.inr (.inr (.inr (aR h a))))) := by
  unfold cellE
  rw [if_neg (by show ¬ t < 11; omega), if_neg (by show ¬ t = 12; omega), if_neg (by show ¬ t < 14; omega)]
theorem HS.upd {D : va_G} {cy : Nat → ClassId} {s0 : Nat} {h h1 : Hp} {H H1 : Heap} (hh : HS D cy s0 h H) {a : Nat} (hK1 : hK h1 = hK h) (hz : hZ h1 = hZ h)
    (hsame : ∀ b k, b ≠ a → cellE cy h1 b k = cellE cy h b k) (z : H1.size = H.size) (oq : ∀ q : Nat, q ≠ a → H1[q]? = H[q]?) (hat : ∀ k, hK h a = some k → va_at D vwCl (a, cellE cy h1 a k) H1) : HS D cy s0 h1 H1 := by
  refine ⟨by rw [z, hz]; exact hh.1, by rw [hz]; exact hh.2.1, fun b k hb => ?_⟩
  rw [hK1] at hb
  refine ⟨(hh.2.2 b k hb).1, ?_⟩
  by_cases hba : b = a
  · subst hba
    exact hat k hb
  · rw [hsame b k hba]
    exact (hh.2.2 b k hb).2.kept (oq b hba)
theorem HS.new {D : va_G} {cy : Nat → ClassId} {s0 : Nat} {h h1 : Hp} {H H1 : Heap} {k0 : Nat × Nat} (hh : HS D cy s0 h H) (hK1 : hK h1 = up1 (hK h) (hZ h) (some k0)) (hz : hZ h1 = hZ h + 1)
    (hsame : ∀ b k, b ≠ hZ h → cellE cy h1 b k = cellE cy h b k) (z : H1.size = H.size + 1) (oq : ∀ q : Nat, q < H.size → H1[q]? = H[q]?) (hat : va_at D vwCl (hZ h, cellE cy h1 (hZ h) k0) H1) : HS D cy s0 h1 H1 := by
  refine ⟨by rw [z, hz, hh.1], by rw [hz]; exact Nat.le_succ_of_le hh.2.1, fun b k hb => ?_⟩
  rw [hK1] at hb
  by_cases hba : b = hZ h
  · subst hba
    simp only [up1, if_true] at hb
    cases hb
    exact ⟨hh.2.1, hat⟩
  · simp only [up1, if_neg hba] at hb
    rw [hsame b k hba]
    obtain ⟨g1, g2⟩ := hh.2.2 b k hb
    exact ⟨g1, g2.kept (oq b g2.lt)⟩
theorem WS.wr {D : va_G} {cy : Nat → ClassId} {s0 : Nat} {s : State} {h h1 : Hp} {H H1 : Heap} {locs : List Loc} (hw : WS D cy s0 s h H locs) {a i : Nat} (ha : s0 ≤ a) (z : H1.size = H.size) (oq : ∀ q : Nat, q ≠ a → H1[q]? = H[q]?) (hh : HS D cy s0 h1 H1) : WS D cy s0 s h1 H1 (locs ++ [⟨a, i⟩]) := ⟨hh, hw.2.1.put z oq ha, hw.2.2⟩
theorem WS.nw {D : va_G} {cy : Nat → ClassId} {s0 : Nat} {s : State} {h h1 : Hp} {H H1 : Heap} {locs : List Loc} (hw : WS D cy s0 s h H locs) (z : H1.size = H.size + 1) (oq : ∀ q : Nat, q < H.size → H1[q]? = H[q]?) (hh : HS D cy s0 h1 H1) : WS D cy s0 s h1 H1 locs :=
  ⟨hh, ⟨Nat.le_trans hw.2.1.1 (by omega), fun x h1 h2 => (oq x (Nat.lt_of_lt_of_le h1 hw.2.1.1)).trans (hw.2.1.2.1 x h1 h2), hw.2.1.2.2⟩, hw.2.2⟩
theorem gI_s {h : Hp} {ci k a : Nat} {v : Int32} (g : gI h ci k a = some v) : hK h a = some (ci, 0) ∧ v = hI h (gq ci k) a := by
  unfold gI at g; split at g
  · next q => exact ⟨q, (Option.some.inj g).symm⟩
  · cases g
theorem gL_s {h : Hp} {ci k a : Nat} {v : Int64} (g : gL h ci k a = some v) : hK h a = some (ci, 0) ∧ v = hL h (gq ci k) a := by
  unfold gL at g; split at g
  · next q => exact ⟨q, (Option.some.inj g).symm⟩
  · cases g
theorem gR_s {h : Hp} {ci k a : Nat} {v : Option Nat} (g : gR h ci k a = some v) : hK h a = some (ci, 0) ∧ v = hR h (gq ci k) a := by
  unfold gR at g; split at g
  · next q => exact ⟨q, (Option.some.inj g).symm⟩
  · cases g
theorem inB_s {h : Hp} {t a : Nat} {i : Int32} (g : inB h t a i = true) : ∃ n, hK h a = some (t, n) ∧ vp_in i n := by
  unfold inB at g
  cases hk : hK h a with
  | none => rw [hk] at g; cases g
  | some k =>
    rw [hk] at g
    simp only [Bool.and_eq_true, decide_eq_true_eq] at g
    obtain ⟨t1, n⟩ := k
    obtain ⟨g1, g2⟩ := g
    have g1 : t1 = t := g1
    subst g1
    exact ⟨n, rfl, g2⟩
theorem map_at {f : Nat → Value} {N k : Nat} (hk : k < N) : ((List.range N).map f)[k]? = some (f k) := by simp [hk]
theorem map_set {f g : Nat → Value} {N k : Nat} {v : Value} (hv : g k = v) (ho : ∀ j, j ≠ k → g j = f j) : ((List.range N).map f).set k v = (List.range N).map g := by
  apply List.ext_getElem?
  intro j
  by_cases hj : j = k
  · subst hj
    by_cases hl : j < N
    · rw [List.getElem?_set_self (by simpa using hl)]
      simp [hl, hv]
    · rw [List.getElem?_eq_none (by simp; omega), List.getElem?_eq_none (by simp; omega)]
  · rw [List.getElem?_set_ne (Ne.symm hj)]
    by_cases hl : j < N
    · simp [hl, ho j hj]
    · rw [List.getElem?_eq_none (by simp; omega), List.getElem?_eq_none (by simp; omega)]
theorem gq_inj {ci j k : Nat} (h : gq ci j = gq ci k) : j = k := by unfold gq at h; omega
section ROWS
variable {p : Program} {l : Launch} {e : Env} {R : Room} {s : State} {m : MethodId} {args : Array Value} {below : List Frame} {meth : Method} {c : Code} {H : Heap} {locs : List Loc} {cells slots : Nat} {Q : State → Prop}
variable {cc : ByteArray} {pc : Nat} {ls : Array Slot} {rest : List Value} {D : va_G} {cy : Nat → ClassId} {s0 : Nat} {h : Hp} {nL : Nat} {own : String} {ret : Option FieldType}
theorem r_gI (C : CX D cy s0 p s m args meth c cc nL own ret) (hw : WS D cy s0 s h H locs) {ci k a index N : Nat} {v : Int32} (hg : gI h ci k a = some v) {Cn : String} {T : u_T} {ty : Nat → FieldType} (ck : CK ci Cn T N ty) (hf : fk ci k = 0) (hk : k < N) (hlink : Cond.fieldLink own index (T k).1 (T k).2.1 (T k).2.2.1 ∈ GW) (hdg : decode cc pc = .ok (.getfield index, 3))
    (kk : W p l e R s m args below meth c H locs cells slots Q (F0 m (pc + 3) ls (.int v :: rest))) : W p l e R s m args below meth c H locs cells slots Q (F0 m pc ls (.ref a :: rest)) := by
  obtain ⟨hx, hb, hml, hown, hts, hKv, -⟩ := C
  obtain ⟨c1, c2, c3, c4, c5, c6, -⟩ := ck
  obtain ⟨ka, rfl⟩ := gI_s hg
  refine va_get (D := D) (cl := vwCl) hx hb hts c2 hown hKv (hw.1.one ka (cellE_o cy h a c6)) 0 rfl c1 k hk (hts _ hlink) (fun _ h9 => h9) (v := .int (hI h (gq ci k) a)) ?_ hdg kk
  rw [map_at (by rw [c5]; exact hk)]
  simp [fv, hf]
theorem r_gL (C : CX D cy s0 p s m args meth c cc nL own ret) (hw : WS D cy s0 s h H locs) {ci k a index N : Nat} {v : Int64} (hg : gL h ci k a = some v) {Cn : String} {T : u_T} {ty : Nat → FieldType} (ck : CK ci Cn T N ty) (hf : fk ci k = 1) (hk : k < N) (hlink : Cond.fieldLink own index (T k).1 (T k).2.1 (T k).2.2.1 ∈ GW) (hdg : decode cc pc = .ok (.getfield index, 3))
    (kk : W p l e R s m args below meth c H locs cells slots Q (F0 m (pc + 3) ls (.long v :: rest))) : W p l e R s m args below meth c H locs cells slots Q (F0 m pc ls (.ref a :: rest)) := by
  obtain ⟨hx, hb, hml, hown, hts, hKv, -⟩ := C
  obtain ⟨c1, c2, c3, c4, c5, c6, -⟩ := ck
  obtain ⟨ka, rfl⟩ := gL_s hg
  refine va_get (D := D) (cl := vwCl) hx hb hts c2 hown hKv (hw.1.one ka (cellE_o cy h a c6)) 0 rfl c1 k hk (hts _ hlink) (fun _ h9 => h9) (v := .long (hL h (gq ci k) a)) ?_ hdg kk
  rw [map_at (by rw [c5]; exact hk)]
  simp [fv, hf]
theorem r_gR (C : CX D cy s0 p s m args meth c cc nL own ret) (hw : WS D cy s0 s h H locs) {ci k a index N : Nat} {v : Option Nat} (hg : gR h ci k a = some v) {Cn : String} {T : u_T} {ty : Nat → FieldType} (ck : CK ci Cn T N ty) (hf : fk ci k = 2) (hk : k < N) (hlink : Cond.fieldLink own index (T k).1 (T k).2.1 (T k).2.2.1 ∈ GW) (hdg : decode cc pc = .ok (.getfield index, 3))
    (kk : W p l e R s m args below meth c H locs cells slots Q (F0 m (pc + 3) ls (va_rf v :: rest))) : W p l e R s m args below meth c H locs cells slots Q (F0 m pc ls (.ref a :: rest)) := by
  obtain ⟨hx, hb, hml, hown, hts, hKv, -⟩ := C
  obtain ⟨c1, c2, c3, c4, c5, c6, -⟩ := ck
  obtain ⟨ka, rfl⟩ := gR_s hg
  refine va_get (D := D) (cl := vwCl) hx hb hts c2 hown hKv (hw.1.one ka (cellE_o cy h a c6)) 0 rfl c1 k hk (hts _ hlink) (fun _ h9 => h9) (v := va_rf (hR h (gq ci k) a)) ?_ hdg kk
  rw [map_at (by rw [c5]; exact hk)]
  simp [fv, hf]
/-- putfield, of any sort; h1 is the picture behind it -/
theorem r_pX (C : CX D cy s0 p s m args meth c cc nL own ret) (hw : WS D cy s0 s h H locs) {ci k a index N : Nat} {v : Value} {h1 : Hp} (ka : hK h a = some (ci, 0)) (hK1 : hK h1 = hK h) (hz : hZ h1 = hZ h) (hsame : ∀ b kk, b ≠ a → cellE cy h1 b kk = cellE cy h b kk) (hme : fv h1 ci k a = v) (hoth : ∀ j, j ≠ k → fv h1 ci j a = fv h ci j a)
    {Cn : String} {T : u_T} {ty : Nat → FieldType} (ck : CK ci Cn T N ty) (hk : k < N) (hlink : Cond.fieldLink own index (T k).1 (T k).2.1 (T k).2.2.1 ∈ GW) (hfin : (T k).2.2.2 = false ∨ ((T k).2.2.2 = true ∧ meth.name = "<init>" ∧ (T k).1 = own)) (hn : narrow (ty k) v = v) (hfit : fits (ty k) v = true) (hdg : decode cc pc = .ok (.putfield index, 3))
    (kk : ∀ (H1 : Heap) (locs1 : List Loc), WS D cy s0 s h1 H1 locs1 → W p l e R s m args below meth c H1 locs1 cells slots Q (F0 m (pc + 3) ls rest)) : W p l e R s m args below meth c H locs cells slots Q (F0 m pc ls (v :: .ref a :: rest)) := by
  obtain ⟨hx, hb, hml, hown, hts, hKv, -⟩ := C
  obtain ⟨c1, c2, c3, c4, c5, c6, -⟩ := ck
  have hap := va_apart (own := own) hts c2 ty c3 c4 hKv c1
  have hP := hw.1.one ka (cellE_o cy h a c6)
  obtain ⟨r, g1, cell, q1, q2, q3, q4⟩ := hP 0 _ rfl
  have hr : r = (Cn, T, N) := Option.some.inj (g1.symm.trans c1)
  subst hr
  obtain ⟨hSl, hfc, kC, hkC, hkind⟩ := hKv.1 ci _ c1
  obtain ⟨cf, kf, fi, f, hi, hsl⟩ := hSl k hk
  have hst := (u_facts hfc hkC (u_lays hts c2 hk) hi).1
  have fin : ∀ H' : Heap, H'[a]? = some (cell.setSlot f.slot v) → H'.size = H.size → (∀ q, q ≠ a → H'[q]? = H[q]?) → W p l e R s m args below meth c H' (locs ++ [⟨a, f.slot⟩]) cells slots Q { (F0 m pc ls (v :: .ref a :: rest)) with pc := pc + 3, stack := rest } := by
    intro H' e1 e2 e3
    rw [hsl] at e1 ⊢
    refine kk H' _ (hw.wr (hw.1.2.2 a _ ka).1 e2 e3 (hw.1.upd (a := a) hK1 hz hsame e2 e3 (fun k2 h2 => ?_)))
    rw [ka] at h2
    cases h2
    rw [cellE_o cy h1 a c6]
    refine ⟨_, c1, t_OB.to (V := updV (vp_V ((List.range (nf ci)).map (fun j => fv h ci j a))) k v) ⟨_, e1, q2, q3, t_set q4 hap hk v⟩ (fun j _ => ?_)⟩
    rw [vp_updV_set (by simp [c5]; exact hk) v j, map_set (g := fun j => fv h1 ci j a) hme hoth]
  rcases hfin with hfin | ⟨hfin, hin2, hdecl⟩
  · have hlay := hts _ (c2 _ (u_in_lay hk))
    unfold u_lay at hlay
    rw [if_neg (by rw [hfin]; decide)] at hlay
    have h6 := u_store hfc hkC hkind hlay hi (c3 k hk) hn hfit
    exact W.putK hx hb (f := f) ⟨hown, hts _ hlink, ⟨_, _, _, hi⟩, hst⟩ (by rw [q2]; exact h6) q1 q3 (by rw [hsl]; exact k2_hasslot (q4 k hk)) rfl rfl hdg fin
  · have hlay := hts _ (c2 _ (u_in_lay hk))
    unfold u_lay at hlay
    rw [if_pos hfin] at hlay
    have hcf : m.cls = cf := by
      obtain ⟨_, _, c', _, _, _, -, -, hf', -, -, -, hown2, -⟩ := Cond.laysFinal_spec hlay
      have e1 : c' = cf := by have := hi.symm.trans hf'; simp at this; exact this.1.symm
      rw [hdecl] at hown2
      rw [← e1]; exact Option.some.inj (hown.symm.trans hown2)
    have h6 := u_fits hfc hkC hkind (Or.inr hlay) hi (c3 k hk) hn hfit
    exact W.putFinK hx hb hown (hts _ hlink) hi hst hcf hin2 (by rw [q2]; exact h6) q1 q3 (by rw [hsl]; exact k2_hasslot (q4 k hk)) rfl rfl hdg fin
theorem sI_same (cy : Nat → ClassId) (h : Hp) (g a : Nat) (v : Int32) : ∀ b k, b ≠ a → cellE cy (sI h g a v) b k = cellE cy h b k := by
  intro b k hb
  have : ∀ ci j, fv (sI h g a v) ci j b = fv h ci j b := by intro ci j; simp [fv, sI, mkH, hI, hL, hR, up2, hb]
  simp only [cellE, this]
  rfl
theorem sL_same (cy : Nat → ClassId) (h : Hp) (g a : Nat) (v : Int64) : ∀ b k, b ≠ a → cellE cy (sL h g a v) b k = cellE cy h b k := by
  intro b k hb
  have : ∀ ci j, fv (sL h g a v) ci j b = fv h ci j b := by intro ci j; simp [fv, sL, mkH, hI, hL, hR, up2, hb]
  simp only [cellE, this]
  rfl
theorem sR_same (cy : Nat → ClassId) (h : Hp) (g a : Nat) (v : Option Nat) : ∀ b k, b ≠ a → cellE cy (sR h g a v) b k = cellE cy h b k := by
  intro b k hb
  have : ∀ ci j, fv (sR h g a v) ci j b = fv h ci j b := by intro ci j; simp [fv, sR, mkH, hI, hL, hR, up2, hb]
  simp only [cellE, this]
  rfl
theorem r_pI (C : CX D cy s0 p s m args meth c cc nL own ret) (hw : WS D cy s0 s h H locs) {ci k a index N : Nat} {v : Int32} {h1 : Hp} (hg : pI h ci k a v = some h1) {Cn : String} {T : u_T} {ty : Nat → FieldType} (ck : CK ci Cn T N ty) (hf : fk ci k = 0) (hk : k < N) (hty : ty k = .int) (hlink : Cond.fieldLink own index (T k).1 (T k).2.1 (T k).2.2.1 ∈ GW) (hfin : (T k).2.2.2 = false ∨ ((T k).2.2.2 = true ∧ meth.name = "<init>" ∧ (T k).1 = own)) (hdg : decode cc pc = .ok (.putfield index, 3))
    (kk : ∀ (H1 : Heap) (locs1 : List Loc), WS D cy s0 s h1 H1 locs1 → W p l e R s m args below meth c H1 locs1 cells slots Q (F0 m (pc + 3) ls rest)) : W p l e R s m args below meth c H locs cells slots Q (F0 m pc ls (.int v :: .ref a :: rest)) := by
  unfold pI at hg
  split at hg
  · next ka =>
    cases hg
    refine r_pX (h1 := sI h (gq ci k) a v) C hw ka rfl rfl (sI_same cy h _ a v) (by simp [fv, hf, sI, mkH, hI, up2]) (fun j hj => ?_) ck hk hlink hfin (by rw [hty]; rfl) (by rw [hty]; rfl) hdg kk
    have : ¬ gq ci j = gq ci k := fun q => hj (gq_inj q)
    simp [fv, sI, mkH, hI, hL, hR, up2, this]
  · cases hg
theorem r_pZ (C : CX D cy s0 p s m args meth c cc nL own ret) (hw : WS D cy s0 s h H locs) {ci k a index N : Nat} {v : Int32} {h1 : Hp} (hg : pZ h ci k a v = some h1) {Cn : String} {T : u_T} {ty : Nat → FieldType} (ck : CK ci Cn T N ty) (hf : fk ci k = 0) (hk : k < N) (hty : ty k = .boolean) (hlink : Cond.fieldLink own index (T k).1 (T k).2.1 (T k).2.2.1 ∈ GW) (hfin : (T k).2.2.2 = false ∨ ((T k).2.2.2 = true ∧ meth.name = "<init>" ∧ (T k).1 = own)) (hdg : decode cc pc = .ok (.putfield index, 3))
    (kk : ∀ (H1 : Heap) (locs1 : List Loc), WS D cy s0 s h1 H1 locs1 → W p l e R s m args below meth c H1 locs1 cells slots Q (F0 m (pc + 3) ls rest)) : W p l e R s m args below meth c H locs cells slots Q (F0 m pc ls (.int v :: .ref a :: rest)) := by
  unfold pZ at hg
  split at hg
  · next ka =>
    cases hg
    obtain ⟨ka, hv⟩ := ka
    refine r_pX (h1 := sI h (gq ci k) a v) C hw ka rfl rfl (sI_same cy h _ a v) (by simp [fv, hf, sI, mkH, hI, up2]) (fun j hj => ?_) ck hk hlink hfin (by rw [hty]; rcases hv with rfl | rfl <;> rfl) (by rw [hty]; rcases hv with rfl | rfl <;> rfl) hdg kk
    have : ¬ gq ci j = gq ci k := fun q => hj (gq_inj q)
    simp [fv, sI, mkH, hI, hL, hR, up2, this]
  · cases hg
theorem r_pL (C : CX D cy s0 p s m args meth c cc nL own ret) (hw : WS D cy s0 s h H locs) {ci k a index N : Nat} {v : Int64} {h1 : Hp} (hg : pL h ci k a v = some h1) {Cn : String} {T : u_T} {ty : Nat → FieldType} (ck : CK ci Cn T N ty) (hf : fk ci k = 1) (hk : k < N) (hty : ty k = .long) (hlink : Cond.fieldLink own index (T k).1 (T k).2.1 (T k).2.2.1 ∈ GW) (hfin : (T k).2.2.2 = false ∨ ((T k).2.2.2 = true ∧ meth.name = "<init>" ∧ (T k).1 = own)) (hdg : decode cc pc = .ok (.putfield index, 3))
    (kk : ∀ (H1 : Heap) (locs1 : List Loc), WS D cy s0 s h1 H1 locs1 → W p l e R s m args below meth c H1 locs1 cells slots Q (F0 m (pc + 3) ls rest)) : W p l e R s m args below meth c H locs cells slots Q (F0 m pc ls (.long v :: .ref a :: rest)) := by
  unfold pL at hg
  split at hg
  · next ka =>
    cases hg
    refine r_pX (h1 := sL h (gq ci k) a v) C hw ka rfl rfl (sL_same cy h _ a v) (by simp [fv, hf, sL, mkH, hL, up2]) (fun j hj => ?_) ck hk hlink hfin (by rw [hty]; rfl) (by rw [hty]; rfl) hdg kk
    have : ¬ gq ci j = gq ci k := fun q => hj (gq_inj q)
    simp [fv, sL, mkH, hI, hL, hR, up2, this]
  · cases hg
theorem r_pR (C : CX D cy s0 p s m args meth c cc nL own ret) (hw : WS D cy s0 s h H locs) {ci k a index N : Nat} {v : Option Nat} {vv : Value} {h1 : Hp} (hg : pR h ci k a v = some h1) (hvv : va_rf v = vv) {Cn : String} {T : u_T} {ty : Nat → FieldType} (ck : CK ci Cn T N ty) (hf : fk ci k = 2) (hk : k < N) (hn : narrow (ty k) vv = vv) (hfit : fits (ty k) vv = true) (hlink : Cond.fieldLink own index (T k).1 (T k).2.1 (T k).2.2.1 ∈ GW) (hfin : (T k).2.2.2 = false ∨ ((T k).2.2.2 = true ∧ meth.name = "<init>" ∧ (T k).1 = own)) (hdg : decode cc pc = .ok (.putfield index, 3))
    (kk : ∀ (H1 : Heap) (locs1 : List Loc), WS D cy s0 s h1 H1 locs1 → W p l e R s m args below meth c H1 locs1 cells slots Q (F0 m (pc + 3) ls rest)) : W p l e R s m args below meth c H locs cells slots Q (F0 m pc ls (vv :: .ref a :: rest)) := by
  unfold pR at hg
  split at hg
  · next ka =>
    cases hg
    refine r_pX (h1 := sR h (gq ci k) a v) C hw ka rfl rfl (sR_same cy h _ a v) (by simp [fv, hf, sR, mkH, hR, up2, hvv]) (fun j hj => ?_) ck hk hlink hfin hn hfit hdg kk
    have : ¬ gq ci j = gq ci k := fun q => hj (gq_inj q)
    simp [fv, sR, mkH, hI, hL, hR, up2, this]
  · cases hg
end ROWS
