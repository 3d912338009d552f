section ROWS2
variable {p : Program} {l : Launch} {e : Env} {R : Room} {s : State} {m : MethodId} {args : Array Value} {below : List Frame} {meth : Method} {c : Code} {H : Heap} {locs : List Loc} {cells slots : Nat} {Q : State → Prop}
variable {cc : ByteArray} {pc : Nat} {ls : Array Slot} {rest : List Value} {D : va_G} {cy : Nat → ClassId} {s0 : Nat} {h : Hp} {nL : Nat} {own : String} {ret : Option FieldType}
theorem ldI_s {h : Hp} {t a : Nat} {i v : Int32} (g : ldI h t a i = some v) : ∃ n, hK h a = some (t, n) ∧ vp_in i n ∧ v = aI h a i.toNatClampNeg := by
  unfold ldI at g; split at g
  · next q => obtain ⟨n, g1, g2⟩ := inB_s q; exact ⟨n, g1, g2, (Option.some.inj g).symm⟩
  · cases g
theorem ldL_s {h : Hp} {t a : Nat} {i : Int32} {v : Int64} (g : ldL h t a i = some v) : ∃ n, hK h a = some (t, n) ∧ vp_in i n ∧ v = aL h a i.toNatClampNeg := by
  unfold ldL at g; split at g
  · next q => obtain ⟨n, g1, g2⟩ := inB_s q; exact ⟨n, g1, g2, (Option.some.inj g).symm⟩
  · cases g
theorem ldR_s {h : Hp} {t a : Nat} {i : Int32} {v : Option Nat} (g : ldR h t a i = some v) : ∃ n, hK h a = some (t, n) ∧ vp_in i n ∧ v = aR h a i.toNatClampNeg := by
  unfold ldR at g; split at g
  · next q => obtain ⟨n, g1, g2⟩ := inB_s q; exact ⟨n, g1, g2, (Option.some.inj g).symm⟩
  · cases g
theorem r_iald (C : CX D cy s0 p s m args meth c cc nL own ret) (hw : WS D cy s0 s h H locs) {a : Nat} {i v : Int32} (hg : ldI h 11 a i = some v) (hdg : decode cc pc = .ok (.iaload, 1))
    (kk : W p l e R s m args below meth c H locs cells slots Q (F0 m (pc + 1) ls (.int v :: rest))) : W p l e R s m args below meth c H locs cells slots Q (F0 m pc ls (.int i :: .ref a :: rest)) := by
  obtain ⟨hx, hb, -, -, -, hKv, -⟩ := C
  obtain ⟨n, g1, g2, rfl⟩ := ldI_s hg
  exact va_iald hx hb hKv (hw.1.one g1 (cellE_i cy h a (Or.inl rfl))) 0 0 rfl rfl g2 hdg kk
theorem r_zald (C : CX D cy s0 p s m args meth c cc nL own ret) (hw : WS D cy s0 s h H locs) {a : Nat} {i v : Int32} (hg : ldI h 13 a i = some v) (hdg : decode cc pc = .ok (.baload, 1))
    (kk : W p l e R s m args below meth c H locs cells slots Q (F0 m (pc + 1) ls (.int v :: rest))) : W p l e R s m args below meth c H locs cells slots Q (F0 m pc ls (.int i :: .ref a :: rest)) := by
  obtain ⟨hx, hb, -, -, -, hKv, -⟩ := C
  obtain ⟨n, g1, g2, rfl⟩ := ldI_s hg
  exact va_zald hx hb hKv (hw.1.one g1 (cellE_i cy h a (Or.inr rfl))) 0 2 rfl rfl g2 hdg kk
theorem r_lald (C : CX D cy s0 p s m args meth c cc nL own ret) (hw : WS D cy s0 s h H locs) {a : Nat} {i : Int32} {v : Int64} (hg : ldL h 12 a i = some v) (hdg : decode cc pc = .ok (.laload, 1))
    (kk : W p l e R s m args below meth c H locs cells slots Q (F0 m (pc + 1) ls (.long v :: rest))) : W p l e R s m args below meth c H locs cells slots Q (F0 m pc ls (.int i :: .ref a :: rest)) := by
  obtain ⟨hx, hb, -, -, -, hKv, -⟩ := C
  obtain ⟨n, g1, g2, rfl⟩ := ldL_s hg
  exact va_lald hx hb hKv (hw.1.one g1 (cellE_l cy h a)) 0 1 rfl rfl g2 hdg kk
theorem r_aald (C : CX D cy s0 p s m args meth c cc nL own ret) (hw : WS D cy s0 s h H locs) {t a : Nat} {i : Int32} {v : Option Nat} (hg : ldR h t a i = some v) {E : String} (ht : 14 ≤ t) (hE : (tyL cy)[t - 11]? = some (cy t, .object E)) (hdg : decode cc pc = .ok (.aaload, 1))
    (kk : W p l e R s m args below meth c H locs cells slots Q (F0 m (pc + 1) ls (va_rf v :: rest))) : W p l e R s m args below meth c H locs cells slots Q (F0 m pc ls (.int i :: .ref a :: rest)) := by
  obtain ⟨hx, hb, -, -, -, hKv, -⟩ := C
  obtain ⟨n, g1, g2, rfl⟩ := ldR_s hg
  exact va_aldq hx hb hKv (hw.1.one g1 (cellE_q cy h a ht)) 0 (t - 11) rfl hE g2 hdg kk
theorem tI_same (cy : Nat → ClassId) (h : Hp) (a i : Nat) (v : Int32) : ∀ b k, b ≠ a → cellE cy (tI h a i v) b k = cellE cy h b k := by
  intro b k hb
  have h1 : aI (tI h a i v) b = aI h b := by funext j; simp [aI, tI, mkH, up2, hb]
  have h2 : ∀ ci j, fv (tI h a i v) ci j b = fv h ci j b := fun _ _ => rfl
  simp only [cellE, h1, h2]
  rfl
theorem tL_same (cy : Nat → ClassId) (h : Hp) (a i : Nat) (v : Int64) : ∀ b k, b ≠ a → cellE cy (tL h a i v) b k = cellE cy h b k := by
  intro b k hb
  have h1 : aL (tL h a i v) b = aL h b := by funext j; simp [aL, tL, mkH, up2, hb]
  have h2 : ∀ ci j, fv (tL h a i v) ci j b = fv h ci j b := fun _ _ => rfl
  simp only [cellE, h1, h2]
  rfl
theorem tR_same (cy : Nat → ClassId) (h : Hp) (a i : Nat) (v : Option Nat) : ∀ b k, b ≠ a → cellE cy (tR h a i v) b k = cellE cy h b k := by
  intro b k hb
  have h1 : aR (tR h a i v) b = aR h b := by funext j; simp [aR, tR, mkH, up2, hb]
  have h2 : ∀ ci j, fv (tR h a i v) ci j b = fv h ci j b := fun _ _ => rfl
  simp only [cellE, h1, h2]
  rfl
theorem tI_row (h : Hp) (a i : Nat) (v : Int32) : aI (tI h a i v) a = upd (aI h a) i v := by funext j; by_cases hj : j = i <;> simp [aI, tI, mkH, up2, upd, hj]
theorem tL_row (h : Hp) (a i : Nat) (v : Int64) : aL (tL h a i v) a = vp_updL (aL h a) i v := by funext j; by_cases hj : j = i <;> simp [aL, tL, mkH, up2, vp_updL, hj]
theorem tR_row (h : Hp) (a i : Nat) (v : Option Nat) : aR (tR h a i v) a = va_up (aR h a) i v := by funext j; by_cases hj : j = i <;> simp [aR, tR, mkH, up2, va_up, hj]
/-- a store into an array, of any sort -/
theorem r_ast0 (hw : WS D cy s0 s h H locs) {t n a j : Nat} {h1 : Hp} (ka : hK h a = some (t, n)) (hK1 : hK h1 = hK h) (hz : hZ h1 = hZ h) (hsame : ∀ b k, b ≠ a → cellE cy h1 b k = cellE cy h b k) {H1 : Heap} (z : H1.size = H.size) (oq : ∀ q : Nat, q ≠ a → H1[q]? = H[q]?) (hat : va_at D vwCl (a, cellE cy h1 a (t, n)) H1) : WS D cy s0 s h1 H1 (locs ++ [⟨a, j⟩]) := by
  refine hw.wr (hw.1.2.2 a _ ka).1 z oq (hw.1.upd (a := a) hK1 hz hsame z oq (fun k2 h2 => ?_))
  rw [ka] at h2
  cases h2
  exact hat
theorem r_iast (C : CX D cy s0 p s m args meth c cc nL own ret) (hw : WS D cy s0 s h H locs) {a : Nat} {i v : Int32} {h1 : Hp} (hg : stI h 11 a i v = some h1) (hdg : decode cc pc = .ok (.iastore, 1))
    (kk : ∀ (H1 : Heap) (locs1 : List Loc), WS D cy s0 s h1 H1 locs1 → W p l e R s m args below meth c H1 locs1 cells slots Q (F0 m (pc + 1) ls rest)) : W p l e R s m args below meth c H locs cells slots Q (F0 m pc ls (.int v :: .int i :: .ref a :: rest)) := by
  obtain ⟨hx, hb, -, -, -, hKv, -⟩ := C
  unfold stI at hg; split at hg
  · next q =>
    cases hg
    obtain ⟨n, g1, g2⟩ := inB_s q
    have hP := hw.1.one g1 (cellE_i cy h a (Or.inl rfl))
    refine W.iast hx hb (hP 0 _ rfl) ((hKv.2 0 _ rfl).1 n (fun j => .int (aI h a j))) (fun q => by cases q) (by show ¬ (i < 0 ∨ (arrV _ _ _).slots.size ≤ _); rw [arrV_size]; exact g2) rfl rfl hdg fun H1 e z oq => ?_
    refine kk H1 _ (r_ast0 (h1 := tI h a i.toNatClampNeg v) hw g1 rfl rfl (tI_same cy h a _ v) z oq ?_)
    rw [cellE_i cy _ a (Or.inl rfl), tI_row]
    show H1[a]? = some (vp_cell _ _)
    rw [e]
    rw [vp_cell_i, vp_cell_i, arrV_store]
    congr 2
    funext q
    by_cases hq : q = i.toNatClampNeg
    · subst hq
      simp [updV, upd]
    · simp [updV, upd, hq]
  · cases hg
theorem r_zast (C : CX D cy s0 p s m args meth c cc nL own ret) (hw : WS D cy s0 s h H locs) {a : Nat} {i v : Int32} {h1 : Hp} (hg : stZ h 13 a i v = some h1) (hdg : decode cc pc = .ok (.bastore, 1))
    (kk : ∀ (H1 : Heap) (locs1 : List Loc), WS D cy s0 s h1 H1 locs1 → W p l e R s m args below meth c H1 locs1 cells slots Q (F0 m (pc + 1) ls rest)) : W p l e R s m args below meth c H locs cells slots Q (F0 m pc ls (.int v :: .int i :: .ref a :: rest)) := by
  obtain ⟨hx, hb, -, -, -, hKv, -⟩ := C
  unfold stZ at hg; split at hg
  · next q =>
    cases hg
    obtain ⟨q, hv⟩ := q
    obtain ⟨n, g1, g2⟩ := inB_s q
    have hP := hw.1.one g1 (cellE_i cy h a (Or.inr rfl))
    refine W.zast hx hb (hP 0 _ rfl) ((hKv.2 2 _ rfl).1 n (fun j => .int (aI h a j))) (fun q => by cases q) (by show ¬ (i < 0 ∨ (arrV _ _ _).slots.size ≤ _); rw [arrV_size]; exact g2) rfl rfl hdg fun H1 e z oq => ?_
    refine kk H1 _ (r_ast0 (h1 := tI h a i.toNatClampNeg v) hw g1 rfl rfl (tI_same cy h a _ v) z oq ?_)
    rw [cellE_i cy _ a (Or.inr rfl), tI_row]
    show H1[a]? = some (vp_cell _ _)
    rw [e]
    have hnar : narrow .boolean (.int v) = .int v := by rcases hv with rfl | rfl <;> rfl
    rw [vp_cell_i, vp_cell_i, hnar, arrV_store]
    congr 2
    funext q
    by_cases hq : q = i.toNatClampNeg
    · subst hq
      simp [updV, upd]
    · simp [updV, upd, hq]
  · cases hg
theorem r_last (C : CX D cy s0 p s m args meth c cc nL own ret) (hw : WS D cy s0 s h H locs) {a : Nat} {i : Int32} {v : Int64} {h1 : Hp} (hg : stL h 12 a i v = some h1) (hdg : decode cc pc = .ok (.lastore, 1))
    (kk : ∀ (H1 : Heap) (locs1 : List Loc), WS D cy s0 s h1 H1 locs1 → W p l e R s m args below meth c H1 locs1 cells slots Q (F0 m (pc + 1) ls rest)) : W p l e R s m args below meth c H locs cells slots Q (F0 m pc ls (.long v :: .int i :: .ref a :: rest)) := by
  obtain ⟨hx, hb, -, -, -, hKv, -⟩ := C
  unfold stL at hg; split at hg
  · next q =>
    cases hg
    obtain ⟨n, g1, g2⟩ := inB_s q
    have hP := hw.1.one g1 (cellE_l cy h a)
    refine W.last hx hb (hP 0 _ rfl) ((hKv.2 1 _ rfl).1 n (fun j => .long (aL h a j))) (fun q => by cases q) (by show ¬ (i < 0 ∨ (arrV _ _ _).slots.size ≤ _); rw [arrV_size]; exact g2) rfl rfl hdg fun H1 e z oq => ?_
    refine kk H1 _ (r_ast0 (h1 := tL h a i.toNatClampNeg v) hw g1 rfl rfl (tL_same cy h a _ v) z oq ?_)
    rw [cellE_l cy _ a, tL_row]
    show H1[a]? = some (vp_cell _ _)
    rw [e]
    rw [vp_cell_l, vp_cell_l, arrV_store]
    congr 2
    funext q
    by_cases hq : q = i.toNatClampNeg
    · subst hq
      simp [updV, vp_updL]
    · simp [updV, vp_updL, hq]
  · cases hg
theorem r_aast (C : CX D cy s0 p s m args meth c cc nL own ret) (hw : WS D cy s0 s h H locs) {t ei a v : Nat} {i : Int32} {h1 : Hp} (hg : stR h t ei a i v = some h1) (ht : 14 ≤ t) {Cn : String} {T : u_T} {N : Nat} {ty : Nat → FieldType} (ck : CK ei Cn T N ty) (hE : (tyL cy)[t - 11]? = some (cy t, .object Cn)) (hdg : decode cc pc = .ok (.aastore, 1))
    (kk : ∀ (H1 : Heap) (locs1 : List Loc), WS D cy s0 s h1 H1 locs1 → W p l e R s m args below meth c H1 locs1 cells slots Q (F0 m (pc + 1) ls rest)) : W p l e R s m args below meth c H locs cells slots Q (F0 m pc ls (.ref v :: .int i :: .ref a :: rest)) := by
  obtain ⟨hx, hb, -, -, -, hKv, -⟩ := C
  obtain ⟨c1, -, -, -, -, c6, -⟩ := ck
  unfold stR at hg; split at hg
  · next q =>
    cases hg
    obtain ⟨q, kv⟩ := q
    obtain ⟨n, g1, g2⟩ := inB_s q
    have hP := hw.1.one g1 (cellE_q cy h a ht)
    have hV := hw.1.one kv (cellE_o cy h v c6)
    have hlt : i.toNatClampNeg < n := Nat.not_le.mp fun q => g2 (Or.inr q)
    have h0 : ¬ i < 0 := fun q => g2 (Or.inl q)
    obtain ⟨r', hr', cellV, f1, f2, f3, -⟩ := hV 0 _ rfl
    have hcls := (hKv.1 ei _ c1).2
    obtain ⟨kA, comp, k1, k2, k3, -⟩ := (hKv.2 (t - 11) _ hE).2
    have hcomp : comp = D.1 ei := Option.some.inj (k3.symm.trans hcls.1)
    subst hcomp
    obtain ⟨kC, hkC, hkk⟩ := hcls.2
    refine W.aast hx hb (hP 0 _ rfl) (fun q h => by cases h) (fun h => by cases h) k1 k2 rfl hkC ⟨h0, by show _ < (arrV _ _ _).slots.size; rw [arrV_size]; exact hlt⟩ f1 (fun q h => by rw [f3] at h; cases h) (by rw [f2]; exact hkC) (by rw [f2]; exact va_assign ⟨hcls.1, kC, hkC, hkk⟩) rfl rfl hdg fun H1 e z oq => ?_
    refine kk H1 _ (r_ast0 (h1 := tR h a i.toNatClampNeg (some v)) hw g1 rfl rfl (tR_same cy h a _ (some v)) z oq ?_)
    rw [cellE_q cy _ a ht, tR_row]
    show H1[a]? = some (vp_cell _ _)
    rw [e]
    rw [vp_cell_q, vp_cell_q, arrV_store]
    congr 2
    funext q
    by_cases hq : q = i.toNatClampNeg
    · subst hq
      simp [updV, va_up, va_rf]
    · simp [updV, va_up, hq]
  · cases hg
theorem r_alen (C : CX D cy s0 p s m args meth c cc nL own ret) (hw : WS D cy s0 s h H locs) {t a : Nat} {v : Int32} (hg : lnA h t a = some v) (ht : 11 ≤ t) {ty : FieldType} (hE : (tyL cy)[t - 11]? = some (cy t, ty)) (hdg : decode cc pc = .ok (.arraylength, 1))
    (kk : W p l e R s m args below meth c H locs cells slots Q (F0 m (pc + 1) ls (.int v :: rest))) : W p l e R s m args below meth c H locs cells slots Q (F0 m pc ls (.ref a :: rest)) := by
  obtain ⟨hx, hb, -, -, -, hKv, -⟩ := C
  unfold lnA at hg
  cases hk : hK h a with
  | none => rw [hk] at hg; cases hg
  | some k =>
    obtain ⟨t1, n⟩ := k
    rw [hk] at hg
    dsimp only at hg
    split at hg
    · next q =>
      subst q
      cases hg
      by_cases h12 : t1 = 12
      · subst h12
        exact va_alen hx hb hKv (hw.1.one hk (cellE_l cy h a)) 0 (12 - 11) rfl hE rfl hdg kk
      · by_cases h14 : t1 < 14
        · exact va_alen hx hb hKv (hw.1.one hk (cellE_i cy h a (by omega))) 0 (t1 - 11) rfl hE rfl hdg kk
        · exact va_alen hx hb hKv (hw.1.one hk (cellE_q cy h a (by omega))) 0 (t1 - 11) rfl hE rfl hdg kk
    · cases hg
theorem nO_same (cy : Nat → ClassId) (h : Hp) (ci : Nat) : ∀ b k, b ≠ hZ h → cellE cy (nO h ci) b k = cellE cy h b k := by
  intro b k hb
  have : ∀ c2 j, fv (nO h ci) c2 j b = fv h c2 j b := by intro c2 j; simp [fv, nO, mkH, hI, hL, hR, rsF]; simp [hb]
  simp only [cellE, this]
  rfl
theorem nA_same (cy : Nat → ClassId) (h : Hp) (t n : Nat) : ∀ b k, b ≠ hZ h → cellE cy (nA h t n) b k = cellE cy h b k := by
  intro b k hb
  have h2 : ∀ ci j, fv (nA h t n) ci j b = fv h ci j b := fun _ _ => rfl
  have e1 : aI (nA h t n) b = aI h b := by funext j; show (if b = hZ h then 0 else aI h b j) = _; rw [if_neg hb]
  have e2 : aL (nA h t n) b = aL h b := by funext j; show (if b = hZ h then 0 else aL h b j) = _; rw [if_neg hb]
  have e3 : aR (nA h t n) b = aR h b := by funext j; show (if b = hZ h then none else aR h b j) = _; rw [if_neg hb]
  simp only [cellE, h2, e1, e2, e3]
theorem r_new (C : CX D cy s0 p s m args meth c cc nL own ret) (hw : WS D cy s0 s h H locs) {ci index N : Nat} {Cn : String} {T : u_T} {ty : Nat → FieldType} (ck : CK ci Cn T N ty) (hlink : Cond.classLink own index Cn ∈ GW) (hcells : cells + 1 ≤ R.cells) (hslots : slots + N ≤ R.slots) (hdg : decode cc pc = .ok (.new index, 3))
    (kk : ∀ (H1 : Heap), WS D cy s0 s (nO h ci) H1 locs → W p l e R s m args below meth c H1 locs (cells + 1) (slots + N) Q (F0 m (pc + 3) ls (.ref (hZ h) :: rest))) : W p l e R s m args below meth c H locs cells slots Q (F0 m pc ls rest) := by
  obtain ⟨hx, hb, -, hown, hts, hKv, -⟩ := C
  obtain ⟨c1, c2, c3, c4, c5, c6, c7, c8, c9⟩ := ck
  have hKn := hKv.1 ci _ c1
  refine W.newcK hx hb hown (hts _ hlink) (hts _ c7) (hts _ c8) rfl hdg hcells hslots hKn.2.1 hw.1.1 fun H1 kC hkC e1 z1 o1 => ?_
  have z1 : H1.size = H.size + 1 := by rw [z1, hw.1.1]
  have o1 : ∀ q : Nat, q < H.size → H1[q]? = H[q]? := fun q hq => o1 q (by rw [← hw.1.1]; exact hq)
  refine kk H1 (hw.nw z1 o1 (hw.1.new (k0 := (ci, 0)) rfl rfl (nO_same cy h ci) z1 o1 ?_))
  rw [cellE_o cy _ _ c6]
  refine ⟨_, c1, (u_born ty hts c2 hKn hkC e1 c3).to (fun j hj => ?_)⟩
  rw [c9 j hj]
  show _ = vp_V ((List.range (nf ci)).map _) j
  unfold vp_V
  rw [List.getD_eq_getElem?_getD, map_at (by rw [c5]; exact hj)]
  show _ = fv (nO h ci) ci j (hZ h)
  unfold fv
  have e1 : hI (nO h ci) (gq ci j) (hZ h) = 0 := by show (if hZ h = hZ h then 0 else _) = _; rw [if_pos rfl]
  have e2 : hL (nO h ci) (gq ci j) (hZ h) = 0 := by show (if hZ h = hZ h then 0 else _) = _; rw [if_pos rfl]
  have e3 : hR (nO h ci) (gq ci j) (hZ h) = none := by show (if hZ h = hZ h then none else _) = _; rw [if_pos rfl]
  rw [e1, e2, e3]
  generalize fk ci j = q
  rcases q with _ | _ | q <;> rfl
end ROWS2
