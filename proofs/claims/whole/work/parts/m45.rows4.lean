section ROWS4
variable {p : Program} {l : Launch} {e : Env} {R : Room} {s : State} {m : MethodId} {args : Array Value} {below : List Frame} {meth : Method} {c : Code} {H : Heap} {locs : List Loc} {cells slots : Nat} {Q : State → Prop}
variable {cc : ByteArray} {pc : Nat} {ls : Array Slot} {rest : List Value} {D : va_G} {cy : Nat → ClassId} {s0 : Nat} {h : Hp} {nL : Nat} {own : String} {ret : Option FieldType}
theorem cpOk_s {h : Hp} {t a0 a1 : Nat} {sp dp n : Int32} (g : cpOk h t a0 a1 sp dp n = true) : ∃ n0 n1, hK h a0 = some (t, n0) ∧ hK h a1 = some (t, n1) ∧ ¬ sp < 0 ∧ ¬ dp < 0 ∧ ¬ n < 0 ∧ sp.toNatClampNeg + n.toNatClampNeg ≤ n0 ∧ dp.toNatClampNeg + n.toNatClampNeg ≤ n1 := by
  unfold cpOk at g
  cases h0 : hK h a0 with
  | none => rw [h0] at g; cases g
  | some k0 =>
    cases h1 : hK h a1 with
    | none => rw [h0, h1] at g; cases g
    | some k1 =>
      rw [h0, h1] at g
      simp only [decide_eq_true_eq] at g
      obtain ⟨t0, n0⟩ := k0
      obtain ⟨t1, n1⟩ := k1
      obtain ⟨g1, g2, g3⟩ := g
      dsimp only at g1 g2 g3
      subst g1; subst g2
      exact ⟨n0, n1, rfl, rfl, g3⟩
theorem nn0 : ∀ z : Int32, ¬ z < 0 → z.toInt = (z.toNatClampNeg : Int) := by
  intro z hz
  have hz0 : (0 : Int) ≤ z.toInt := by
    have := Int32.not_lt.mp hz
    simpa using Int32.le_iff_toInt_le.mp this
  show z.toInt = ((z.toInt.toNat : Nat) : Int)
  omega
theorem WS.wrL {h1 : Hp} {H1 : Heap} {L : List Loc} (hw : WS D cy s0 s h H locs) {a : Nat} (ha : s0 ≤ a) (hL : ∀ q ∈ L, q.base = a) (z : H1.size = H.size) (oq : ∀ q : Nat, q ≠ a → H1[q]? = H[q]?) (hh : HS D cy s0 h1 H1) : WS D cy s0 s h1 H1 (locs ++ L) := by
  refine ⟨hh, ⟨by rw [z]; exact hw.2.1.1, fun q g1 g2 => ?_, fun q hq => ?_⟩, hw.2.2⟩
  · rw [oq q (fun e => g2 (by rw [e]; exact ha))]
    exact hw.2.1.2.1 q g1 g2
  · rcases List.mem_append.mp hq with h | h
    · exact hw.2.1.2.2 q h
    · show s0 ≤ q.base
      rw [hL q h]
      exact ha
theorem wI_same (cy : Nat → ClassId) (h : Hp) (a : Nat) (f : Nat → Int32) : ∀ b k, b ≠ a → cellE cy (wI h a f) b k = cellE cy h b k := by
  intro b k hb
  have h1 : aI (wI h a f) b = aI h b := by show (if b = a then f else aI h b) = _; rw [if_neg hb]
  have h2 : ∀ ci j, fv (wI h a f) ci j b = fv h ci j b := fun _ _ => rfl
  simp only [cellE, h1, h2]
  rfl
theorem wL_same (cy : Nat → ClassId) (h : Hp) (a : Nat) (f : Nat → Int64) : ∀ b k, b ≠ a → cellE cy (wL h a f) b k = cellE cy h b k := by
  intro b k hb
  have h1 : aL (wL h a f) b = aL h b := by show (if b = a then f else aL h b) = _; rw [if_neg hb]
  have h2 : ∀ ci j, fv (wL h a f) ci j b = fv h ci j b := fun _ _ => rfl
  simp only [cellE, h1, h2]
  rfl
theorem r_cpI (C : CX D cy s0 p s m args meth c cc nL own ret) (hw : WS D cy s0 s h H locs) {index a0 a : Nat} {sp dp n : Int32} {h1 : Hp} (hg : cpI h 11 a0 a sp dp n = some h1) (hsz : ls.size = nL) (hlink : Cond.methodLink own index arraycopyName ∈ GW) (hnat : Cond.native arraycopyName ∈ GW) (hstat : Cond.static arraycopyName ∈ GW) (hini : Cond.initialized "java/lang/System" ∈ GW)
    (hframes : 1 ≤ R.frames) (hlocals : (rest.map fun v => v.category).sum + (nativeFrameWords "java/lang/System" "arraycopy" 5 + 11) ≤ R.locals) (hdg : decode cc pc = .ok (.invokestatic index, 3))
    (kk : ∀ (H1 : Heap) (locs1 : List Loc), WS D cy s0 s h1 H1 locs1 → W p l e R s m args below meth c H1 locs1 cells slots Q (F0 m (pc + 3) ls rest)) : W p l e R s m args below meth c H locs cells slots Q (F0 m pc ls (.int n :: .int dp :: .ref a :: .int sp :: .ref a0 :: rest)) := by
  obtain ⟨hx, hb, hml, hown, hts, hKv, -⟩ := C
  unfold cpI at hg; split at hg
  · next q =>
    cases hg
    obtain ⟨n0, n1, k0, k1, g1, g2, g3, g4, g5⟩ := cpOk_s q
    have hc0 : H[a0]? = some (vp_cell (cy 11) (n0, .inl (aI h a0))) := (hw.1.one k0 (cellE_i cy h a0 (Or.inl rfl))) 0 _ rfl
    have hc1 : H[a]? = some (vp_cell (cy 11) (n1, .inl (aI h a))) := (hw.1.one k1 (cellE_i cy h a (Or.inl rfl))) 0 _ rfl
    generalize hf : aI h a0 = f at hc0 ⊢
    generalize hgg : aI h a = g at hc1 ⊢
    intro T hT X
    obtain ⟨-, kk0, hk0, cm0, hkk0⟩ := (hKv.2 0 _ rfl).1 n0 (fun j => .int (f j))
    obtain ⟨-, kk1, hk1, cm1, hkk1⟩ := (hKv.2 0 _ rfl).1 n1 (fun j => .int (g j))
    obtain ⟨vm', X', step⟩ := X.arraycopy hx hown (hts _ hlink) (hts _ hnat) (hts _ hstat) (hts _ hini) (src := a0) (dst := a) (cs := vp_cell (cy 11) (n0, .inl f)) (cd := vp_cell (cy 11) (n1, .inl g)) (srcPos := sp) (destPos := dp) (n := n) (by rw [hT]; exact hc0) (by rw [hT]; exact hc1)
      (fun _ h => by cases h) (fun _ h => by cases h) (fun h => by cases h) (fun h => by cases h) hk0 hk1 hkk0 hkk1 (by simp [refKind]) g1 g2 g3
      (by rw [nn0 sp g1, nn0 n g3]; show ¬ _ > ((arrV (cy 11) n0 (fun j => .int (f j))).slots.size : Int); rw [arrV_size]; omega)
      (by rw [nn0 dp g2, nn0 n g3]; show ¬ _ > ((arrV (cy 11) n1 (fun j => .int (g j))).slots.size : Int); rw [arrV_size]; omega)
      (fun vm₁ _ i hi => by
        have e : (vp_cell (cy 11) (n0, .inl f)).slots.getD (sp.toNatClampNeg + i) .null = .int (f (sp.toNatClampNeg + i)) := by
          show (arrV (cy 11) n0 (fun j => .int (f j))).slots.getD _ _ = _
          rw [Array.getD_eq_getD_getElem?, arrV_read _ _ (by omega)]
          rfl
        refine ⟨?_, ?_⟩
        · rw [e]
          rfl
        · rw [e]
          exact trivial)
      (g := F0 m pc ls (.int n :: .int dp :: .ref a :: .int sp :: .ref a0 :: rest)) rfl (by rw [hml]; exact hsz) (rest := rest) rfl (by rw [hb]; exact hdg) hframes (by show 2 * 0 + _ + _ ≤ _; omega)
    have e1 : copied (vp_cell (cy 11) (n0, .inl f)) (vp_cell (cy 11) (n1, .inl g)) sp dp n = vp_cell (cy 11) (n1, .inl (va_cpy f g sp.toNatClampNeg dp.toNatClampNeg n.toNatClampNeg)) := va_copied (fun z => .int z) (cy 11) (cy 11) f g g4
    rw [e1] at X' step
    have hl : a < H.size := (Array.getElem?_eq_some_iff.mp hc1).1
    have hheap : ((T.setVm vm').setCell a (vp_cell (cy 11) (n1, .inl (va_cpy f g sp.toNatClampNeg dp.toNatClampNeg n.toNatClampNeg)))).heap = H.setIfInBounds a (vp_cell (cy 11) (n1, .inl (va_cpy f g sp.toNatClampNeg dp.toNatClampNeg n.toNatClampNeg))) := by rw [← hT]; rfl
    have oq : ∀ q : Nat, q ≠ a → (H.setIfInBounds a (vp_cell (cy 11) (n1, .inl (va_cpy f g sp.toNatClampNeg dp.toNatClampNeg n.toNatClampNeg))))[q]? = H[q]? := fun q hq => by simp [Array.getElem?_setIfInBounds, Ne.symm hq]
    rw [hf, hgg] at kk
    obtain ⟨t, a1, b1⟩ := kk _ _ (hw.wrL (hw.1.2.2 a _ k1).1 (fun q hq => by obtain ⟨z, -, hz⟩ := List.mem_map.mp hq; rw [← hz]) (by simp) oq (hw.1.upd (a := a) (h1 := wI h a (va_cpy f g sp.toNatClampNeg dp.toNatClampNeg n.toNatClampNeg)) rfl rfl (wI_same cy h a _) (by simp) oq (fun k2 h2 => by
      rw [k1] at h2
      cases h2
      rw [cellE_i cy _ a (Or.inl rfl), show aI (wI h a (va_cpy f g sp.toNatClampNeg dp.toNatClampNeg n.toNatClampNeg)) a = va_cpy f g sp.toNatClampNeg dp.toNatClampNeg n.toNatClampNeg by (show (if a = a then _ else _) = _); rw [if_pos rfl]]
      show (H.setIfInBounds a _)[a]? = some _
      simp [Array.getElem?_setIfInBounds, hl]))) _ hheap X'
    exact ⟨t, step t a1, b1⟩
  · cases hg
theorem r_cpL (C : CX D cy s0 p s m args meth c cc nL own ret) (hw : WS D cy s0 s h H locs) {index a0 a : Nat} {sp dp n : Int32} {h1 : Hp} (hg : cpL h 12 a0 a sp dp n = some h1) (hsz : ls.size = nL) (hlink : Cond.methodLink own index arraycopyName ∈ GW) (hnat : Cond.native arraycopyName ∈ GW) (hstat : Cond.static arraycopyName ∈ GW) (hini : Cond.initialized "java/lang/System" ∈ GW)
    (hframes : 1 ≤ R.frames) (hlocals : (rest.map fun v => v.category).sum + (nativeFrameWords "java/lang/System" "arraycopy" 5 + 11) ≤ R.locals) (hdg : decode cc pc = .ok (.invokestatic index, 3))
    (kk : ∀ (H1 : Heap) (locs1 : List Loc), WS D cy s0 s h1 H1 locs1 → W p l e R s m args below meth c H1 locs1 cells slots Q (F0 m (pc + 3) ls rest)) : W p l e R s m args below meth c H locs cells slots Q (F0 m pc ls (.int n :: .int dp :: .ref a :: .int sp :: .ref a0 :: rest)) := by
  obtain ⟨hx, hb, hml, hown, hts, hKv, -⟩ := C
  unfold cpL at hg; split at hg
  · next q =>
    cases hg
    obtain ⟨n0, n1, k0, k1, g1, g2, g3, g4, g5⟩ := cpOk_s q
    have hc0 : H[a0]? = some (vp_cell (cy 12) (n0, .inr (.inl (aL h a0)))) := (hw.1.one k0 (cellE_l cy h a0)) 0 _ rfl
    have hc1 : H[a]? = some (vp_cell (cy 12) (n1, .inr (.inl (aL h a)))) := (hw.1.one k1 (cellE_l cy h a)) 0 _ rfl
    generalize hf : aL h a0 = f at hc0 ⊢
    generalize hgg : aL h a = g at hc1 ⊢
    intro T hT X
    obtain ⟨-, kk0, hk0, cm0, hkk0⟩ := (hKv.2 1 _ rfl).1 n0 (fun j => .long (f j))
    obtain ⟨-, kk1, hk1, cm1, hkk1⟩ := (hKv.2 1 _ rfl).1 n1 (fun j => .long (g j))
    obtain ⟨vm', X', step⟩ := X.arraycopy hx hown (hts _ hlink) (hts _ hnat) (hts _ hstat) (hts _ hini) (src := a0) (dst := a) (cs := vp_cell (cy 12) (n0, .inr (.inl f))) (cd := vp_cell (cy 12) (n1, .inr (.inl g))) (srcPos := sp) (destPos := dp) (n := n) (by rw [hT]; exact hc0) (by rw [hT]; exact hc1)
      (fun _ h => by cases h) (fun _ h => by cases h) (fun h => by cases h) (fun h => by cases h) hk0 hk1 hkk0 hkk1 (by simp [refKind]) g1 g2 g3
      (by rw [nn0 sp g1, nn0 n g3]; show ¬ _ > ((arrV (cy 12) n0 (fun j => .long (f j))).slots.size : Int); rw [arrV_size]; omega)
      (by rw [nn0 dp g2, nn0 n g3]; show ¬ _ > ((arrV (cy 12) n1 (fun j => .long (g j))).slots.size : Int); rw [arrV_size]; omega)
      (fun vm₁ _ i hi => by
        have e : (vp_cell (cy 12) (n0, .inr (.inl f))).slots.getD (sp.toNatClampNeg + i) .null = .long (f (sp.toNatClampNeg + i)) := by
          show (arrV (cy 12) n0 (fun j => .long (f j))).slots.getD _ _ = _
          rw [Array.getD_eq_getD_getElem?, arrV_read _ _ (by omega)]
          rfl
        refine ⟨?_, ?_⟩
        · rw [e]
          rfl
        · rw [e]
          exact trivial)
      (g := F0 m pc ls (.int n :: .int dp :: .ref a :: .int sp :: .ref a0 :: rest)) rfl (by rw [hml]; exact hsz) (rest := rest) rfl (by rw [hb]; exact hdg) hframes (by show 2 * 0 + _ + _ ≤ _; omega)
    have e1 : copied (vp_cell (cy 12) (n0, .inr (.inl f))) (vp_cell (cy 12) (n1, .inr (.inl g))) sp dp n = vp_cell (cy 12) (n1, .inr (.inl (va_cpy f g sp.toNatClampNeg dp.toNatClampNeg n.toNatClampNeg))) := va_copied (fun z => .long z) (cy 12) (cy 12) f g g4
    rw [e1] at X' step
    have hl : a < H.size := (Array.getElem?_eq_some_iff.mp hc1).1
    have hheap : ((T.setVm vm').setCell a (vp_cell (cy 12) (n1, .inr (.inl (va_cpy f g sp.toNatClampNeg dp.toNatClampNeg n.toNatClampNeg))))).heap = H.setIfInBounds a (vp_cell (cy 12) (n1, .inr (.inl (va_cpy f g sp.toNatClampNeg dp.toNatClampNeg n.toNatClampNeg)))) := by rw [← hT]; rfl
    have oq : ∀ q : Nat, q ≠ a → (H.setIfInBounds a (vp_cell (cy 12) (n1, .inr (.inl (va_cpy f g sp.toNatClampNeg dp.toNatClampNeg n.toNatClampNeg)))))[q]? = H[q]? := fun q hq => by simp [Array.getElem?_setIfInBounds, Ne.symm hq]
    rw [hf, hgg] at kk
    obtain ⟨t, a1, b1⟩ := kk _ _ (hw.wrL (hw.1.2.2 a _ k1).1 (fun q hq => by obtain ⟨z, -, hz⟩ := List.mem_map.mp hq; rw [← hz]) (by simp) oq (hw.1.upd (a := a) (h1 := wL h a (va_cpy f g sp.toNatClampNeg dp.toNatClampNeg n.toNatClampNeg)) rfl rfl (wL_same cy h a _) (by simp) oq (fun k2 h2 => by
      rw [k1] at h2
      cases h2
      rw [cellE_l cy _ a, show aL (wL h a (va_cpy f g sp.toNatClampNeg dp.toNatClampNeg n.toNatClampNeg)) a = va_cpy f g sp.toNatClampNeg dp.toNatClampNeg n.toNatClampNeg by (show (if a = a then _ else _) = _); rw [if_pos rfl]]
      show (H.setIfInBounds a _)[a]? = some _
      simp [Array.getElem?_setIfInBounds, hl]))) _ hheap X'
    exact ⟨t, step t a1, b1⟩
  · cases hg
theorem r_aastN (C : CX D cy s0 p s m args meth c cc nL own ret) (hw : WS D cy s0 s h H locs) {t a : Nat} {i : Int32} {h1 : Hp} (hg : stN h t a i = some h1) (ht : 14 ≤ t) {E : String} (hE : (tyL cy)[t - 11]? = some (cy t, .object E)) (hdg : decode cc pc = .ok (.aastore, 1))
    (kk : ∀ (H1 : Heap) (locs1 : List Loc), WS D cy s0 s h1 H1 locs1 → W p l e R s m args below meth c H1 locs1 cells slots Q (F0 m (pc + 1) ls rest)) : W p l e R s m args below meth c H locs cells slots Q (F0 m pc ls (.null :: .int i :: .ref a :: rest)) := by
  obtain ⟨hx, hb, -, -, -, hKv, -⟩ := C
  unfold stN at hg; split at hg
  · next q =>
    cases hg
    obtain ⟨n, g1, g2⟩ := inB_s q
    have hP := hw.1.one g1 (cellE_q cy h a ht)
    refine va_WaastN (C := E) hx hb (hP 0 _ rfl) ((hKv.2 (t - 11) _ hE).1 n (fun j => va_rf (aR h a j))) (fun h => by cases h) (by show ¬ (i < 0 ∨ (arrV _ _ _).slots.size ≤ _); rw [arrV_size]; exact g2) rfl rfl hdg fun H1 e z oq => ?_
    refine kk H1 _ (r_ast0 (h1 := tR h a i.toNatClampNeg none) hw g1 rfl rfl (tR_same cy h a _ none) z oq ?_)
    rw [cellE_q cy _ a ht, tR_row]
    show H1[a]? = some (vp_cell _ _)
    rw [e]
    rw [vp_cell_q, vp_cell_q, arrV_store]
    congr 2
    funext q
    by_cases hq : q = i.toNatClampNeg
    · subst hq
      simp [updV, va_up, va_rf]
    · simp [updV, va_up, hq]
  · cases hg
end ROWS4
