/-! ===== a Store copied ===== -/
theorem hI_sL (h : Hp) (f b : Nat) (v : Int64) (g c : Nat) : hI (sL h f b v) g c = hI h g c := rfl
theorem hL_sI (h : Hp) (f b : Nat) (v : Int32) (g c : Nat) : hL (sI h f b v) g c = hL h g c := rfl
theorem hL_sL (h : Hp) (f b : Nat) (v : Int64) (g c : Nat) : hL (sL h f b v) g c = if g = f ∧ c = b then v else hL h g c := rfl
theorem hK_sL (h : Hp) (f b : Nat) (v : Int64) (c : Nat) : hK (sL h f b v) c = hK h c := rfl
theorem hR_sL (h : Hp) (f b : Nat) (v : Int64) (g c : Nat) : hR (sL h f b v) g c = hR h g c := rfl
theorem aI_sL (h : Hp) (f b : Nat) (v : Int64) (a : Nat) : aI (sL h f b v) a = aI h a := rfl
theorem aL_sL (h : Hp) (f b : Nat) (v : Int64) (a : Nat) : aL (sL h f b v) a = aL h a := rfl
theorem aI_sI' (h : Hp) (f b : Nat) (v : Int32) (a : Nat) : aI (sI h f b v) a = aI h a := rfl
theorem aL_sI (h : Hp) (f b : Nat) (v : Int32) (a : Nat) : aL (sI h f b v) a = aL h a := rfl
theorem hK_wI (h : Hp) (b : Nat) (v : Nat → Int32) (c : Nat) : hK (wI h b v) c = hK h c := rfl
theorem hR_wI (h : Hp) (b : Nat) (v : Nat → Int32) (g c : Nat) : hR (wI h b v) g c = hR h g c := rfl
theorem hI_wI (h : Hp) (b : Nat) (v : Nat → Int32) (g c : Nat) : hI (wI h b v) g c = hI h g c := rfl
theorem hL_wI (h : Hp) (b : Nat) (v : Nat → Int32) (g c : Nat) : hL (wI h b v) g c = hL h g c := rfl
theorem aI_wI (h : Hp) (b : Nat) (v : Nat → Int32) (a : Nat) : aI (wI h b v) a = if a = b then v else aI h a := rfl
theorem aL_wI (h : Hp) (b : Nat) (v : Nat → Int32) (a : Nat) : aL (wI h b v) a = aL h a := rfl
theorem hK_wL (h : Hp) (b : Nat) (v : Nat → Int64) (c : Nat) : hK (wL h b v) c = hK h c := rfl
theorem hR_wL (h : Hp) (b : Nat) (v : Nat → Int64) (g c : Nat) : hR (wL h b v) g c = hR h g c := rfl
theorem hI_wL (h : Hp) (b : Nat) (v : Nat → Int64) (g c : Nat) : hI (wL h b v) g c = hI h g c := rfl
theorem hL_wL (h : Hp) (b : Nat) (v : Nat → Int64) (g c : Nat) : hL (wL h b v) g c = hL h g c := rfl
theorem aI_wL (h : Hp) (b : Nat) (v : Nat → Int64) (a : Nat) : aI (wL h b v) a = aI h a := rfl
theorem aL_wL (h : Hp) (b : Nat) (v : Nat → Int64) (a : Nat) : aL (wL h b v) a = if a = b then v else aL h a := rfl
theorem hZ_sL (h : Hp) (f b : Nat) (v : Int64) : hZ (sL h f b v) = hZ h := rfl
theorem ch_wI {h : Hp} {P : Nat → Prop} {b : Nat} {v : Nat → Int32} (e : P b) : Ch h (wI h b v) P := ⟨Nat.le_refl _, fun a _ hp => sa_wI (fun z => hp (by rw [z]; exact e))⟩
theorem ch_wL {h : Hp} {P : Nat → Prop} {b : Nat} {v : Nat → Int64} (e : P b) : Ch h (wL h b v) P := ⟨Nat.le_refl _, fun a _ hp => sa_wL (fun z => hp (by rw [z]; exact e))⟩
theorem cp_ok {h : Hp} {t L n a0 a1 : Nat} (e0 : hK h a0 = some (t, L)) (e1 : hK h a1 = some (t, L)) (hn : n ≤ L) (hn' : n < 100000) : cpOk h t a0 a1 (0 : Int32) (0 : Int32) (Int32.ofNat n) = true := by
  unfold cpOk
  rw [e0, e1]
  simp only [io_cl (show n < 2147483648 by omega), io_nn (show n < 2147483648 by omega)]
  have z : (0 : Int32).toNatClampNeg = 0 := by decide
  simp [z, hn]
theorem cpL_k {h : Hp} {t L n a0 a1 : Nat} (e0 : hK h a0 = some (t, L)) (e1 : hK h a1 = some (t, L)) (hn : n ≤ L) (hn' : n < 100000) : cpL h t a0 a1 (0 : Int32) (0 : Int32) (Int32.ofNat n) = some (wL h a1 (va_cpy (aL h a0) (aL h a1) 0 0 n)) := by
  unfold cpL
  rw [if_pos (cp_ok e0 e1 hn hn'), io_cl (by omega)]; rfl
theorem cpI_k {h : Hp} {t L n a0 a1 : Nat} (e0 : hK h a0 = some (t, L)) (e1 : hK h a1 = some (t, L)) (hn : n ≤ L) (hn' : n < 100000) : cpI h t a0 a1 (0 : Int32) (0 : Int32) (Int32.ofNat n) = some (wI h a1 (va_cpy (aI h a0) (aI h a1) 0 0 n)) := by
  unfold cpI
  rw [if_pos (cp_ok e0 e1 hn hn'), io_cl (by omega)]; rfl
theorem vc_in {α : Type} {f g : Nat → α} {n i : Nat} (h : i < n) : va_cpy f g 0 0 n i = f i := by
  unfold va_cpy; rw [if_pos ⟨Nat.zero_le _, by omega⟩, Nat.zero_add, Nat.sub_zero]
/-- the ints of a Store -/
def cpF (h : Hp) (a b : Nat) : Hp := sI (sL (sI (sI (sI (sI h (gq 7 0) a (hI h (gq 7 0) b)) (gq 7 4) a (hI h (gq 7 4) b)) (gq 7 1) a (hI h (gq 7 1) b)) (gq 7 3) a (hI h (gq 7 3) b)) (gq 7 10) a (hL h (gq 7 10) b)) (gq 7 12) a (hI h (gq 7 12) b)
def cpR (h : Hp) (a b k n : Nat) : Hp := wI h (a + k) (va_cpy (aI h (b + k)) (aI h (a + k)) 0 0 n)
def cpG (h : Hp) (a b : Nat) : Hp := wL h (a + 1) (va_cpy (aL h (b + 1)) (aL h (a + 1)) 0 0 464)
def cpS (h : Hp) (a b : Nat) : Hp := cpR (cpR (cpR (cpR (cpR (cpR (cpR (cpG (cpF h a b) a b) a b 2 64) a b 3 64) a b 4 64) a b 5 64) a b 6 64) a b 7 64) a b 8 9
theorem sw_r {q : Nat} {h : Hp} (w : SW q h) {f k : Nat} (m : (f, k) ∈ fld7) : hR h (gq 7 f) q = some (q + k) := w.2.2 (f, k) m
theorem sw_k {q : Nat} {h : Hp} (w : SW q h) {k : Nat} (h1 : 1 ≤ k) (h2 : k ≤ 8) : hK h (q + k) = some (tag7 k, len7 k) := w.2.1 k h1 h2
theorem c_copyF {h : Hp} {a b : Nat} (wa : SW a h) (wb : SW b h) (hab : b ≠ a) (k : Hp → Option (Unit × Hp)) : (bd (gI h 7 0 b) fun z1 => bd (pI h 7 0 a z1) fun h2 => bd (gI h2 7 4 b) fun z3 => bd (pI h2 7 4 a z3) fun h4 => bd (gI h4 7 1 b) fun z5 => bd (pI h4 7 1 a z5) fun h6 => bd (gI h6 7 3 b) fun z7 => bd (pI h6 7 3 a z7) fun h8 => bd (gL h8 7 10 b) fun z9 => bd (pL h8 7 10 a z9) fun h10 => bd (gI h10 7 12 b) fun z11 => bd (pI h10 7 12 a z11) fun h12 => k h12) = k (cpF h a b) := by
  have ka := wa.1
  have kb := wb.1
  unfold cpF
  simp only [gI, pI, gL, pL, hK_sI, hK_sL, ka, kb, if_true, bd_some, hI_sI, hL_sI, hI_sL, hab, and_false, if_false]
theorem sw_eq {q : Nat} {h h' : Hp} (k : ∀ a, hK h' a = hK h a) (r : ∀ f a, hR h' f a = hR h f a) (w : SW q h) : SW q h' := ⟨(k q).trans w.1, fun j h1 h2 => (k _).trans (w.2.1 j h1 h2), fun z hz => (r _ _).trans (w.2.2 z hz)⟩
theorem hK_cpF (h : Hp) (a b x : Nat) : hK (cpF h a b) x = hK h x := by unfold cpF; rw [hK_sI, hK_sL, hK_sI, hK_sI, hK_sI, hK_sI]
theorem hR_cpF (h : Hp) (a b f x : Nat) : hR (cpF h a b) f x = hR h f x := by unfold cpF; rw [hR_sI, hR_sL, hR_sI, hR_sI, hR_sI, hR_sI]
theorem sw_cpF {q a b : Nat} {h : Hp} (w : SW q h) : SW q (cpF h a b) := sw_eq (hK_cpF h a b) (hR_cpF h a b) w
theorem sw_cpR {q a b k n : Nat} {h : Hp} (w : SW q h) : SW q (cpR h a b k n) := sw_eq (hK_wI h _ _) (hR_wI h _ _) w
theorem sw_cpG {q a b : Nat} {h : Hp} (w : SW q h) : SW q (cpG h a b) := sw_eq (hK_wL h _ _) (hR_wL h _ _) w
theorem hI_cpR (h : Hp) (a b k n f x : Nat) : hI (cpR h a b k n) f x = hI h f x := hI_wI h _ _ f x
theorem hL_cpR (h : Hp) (a b k n f x : Nat) : hL (cpR h a b k n) f x = hL h f x := hL_wI h _ _ f x
theorem aL_cpR (h : Hp) (a b k n x : Nat) : aL (cpR h a b k n) x = aL h x := aL_wI h _ _ x
theorem hI_cpG (h : Hp) (a b f x : Nat) : hI (cpG h a b) f x = hI h f x := hI_wL h _ _ f x
theorem hL_cpG (h : Hp) (a b f x : Nat) : hL (cpG h a b) f x = hL h f x := hL_wL h _ _ f x
theorem c_copyR {h : Hp} {a b f k n : Nat} (wa : SW a h) (wb : SW b h) (m : (f, k) ∈ fld7) (h1 : 1 ≤ k) (h2 : k ≤ 8) (ht : tag7 k = 11) (hn : n ≤ len7 k) (hn' : n < 100000) (K : Hp → Option (Unit × Hp)) : (bd (gR h 7 f b) fun z18 => onR z18 (none) fun a19 => bd (gR h 7 f a) fun z20 => onR z20 (none) fun a21 => bd (cpI h 11 a19 a21 (0 : Int32) (0 : Int32) (Int32.ofNat n)) fun h22 => K h22) = K (cpR h a b k n) := by
  have k1 := sw_k wb h1 h2
  have k2 := sw_k wa h1 h2
  rw [ht] at k1 k2
  rw [gR_k wb.1, bd_some, sw_r wb m, onR_some, gR_k wa.1, bd_some, sw_r wa m, onR_some, cpI_k k1 k2 hn hn', bd_some, cpR]
theorem c_copyG {h : Hp} {a b : Nat} (wa : SW a h) (wb : SW b h) (K : Hp → Option (Unit × Hp)) : (bd (gR h 7 2 b) fun z18 => onR z18 (none) fun a19 => bd (gR h 7 2 a) fun z20 => onR z20 (none) fun a21 => bd (cpL h 12 a19 a21 (0 : Int32) (0 : Int32) (464 : Int32)) fun h22 => K h22) = K (cpG h a b) := by
  have k1 : hK h (b + 1) = some (12, 464) := sw_k wb (k := 1) (by decide) (by decide)
  have k2 : hK h (a + 1) = some (12, 464) := sw_k wa (k := 1) (by decide) (by decide)
  rw [show (464 : Int32) = Int32.ofNat 464 from rfl, gR_k wb.1, bd_some, sw_r wb (k := 1) (by decide), onR_some, gR_k wa.1, bd_some, sw_r wa (k := 1) (by decide), onR_some, cpL_k (L := 464) k1 k2 (by decide) (by decide), bd_some, cpG]
theorem c_copy {h : Hp} {a b : Nat} (wa : SW a h) (wb : SW b h) (hab : b ≠ a) : fX7_copyFrom a b h = some ((), cpS h a b) := by
  unfold fX7_copyFrom
  rw [c_copyF wa wb hab, c_copyG (sw_cpF wa) (sw_cpF wb)]
  rw [show (64 : Int32) = Int32.ofNat 64 from rfl, show (9 : Int32) = Int32.ofNat 9 from rfl]
  rw [c_copyR (k := 2) (sw_cpG (sw_cpF wa)) (sw_cpG (sw_cpF wb)) (by decide) (by decide) (by decide) rfl (by decide) (by decide)]
  rw [c_copyR (k := 3) (sw_cpR (sw_cpG (sw_cpF wa))) (sw_cpR (sw_cpG (sw_cpF wb))) (by decide) (by decide) (by decide) rfl (by decide) (by decide)]
  rw [c_copyR (k := 4) (sw_cpR (sw_cpR (sw_cpG (sw_cpF wa)))) (sw_cpR (sw_cpR (sw_cpG (sw_cpF wb)))) (by decide) (by decide) (by decide) rfl (by decide) (by decide)]
  rw [c_copyR (k := 5) (sw_cpR (sw_cpR (sw_cpR (sw_cpG (sw_cpF wa))))) (sw_cpR (sw_cpR (sw_cpR (sw_cpG (sw_cpF wb))))) (by decide) (by decide) (by decide) rfl (by decide) (by decide)]
  rw [c_copyR (k := 6) (sw_cpR (sw_cpR (sw_cpR (sw_cpR (sw_cpG (sw_cpF wa)))))) (sw_cpR (sw_cpR (sw_cpR (sw_cpR (sw_cpG (sw_cpF wb)))))) (by decide) (by decide) (by decide) rfl (by decide) (by decide)]
  rw [c_copyR (k := 7) (sw_cpR (sw_cpR (sw_cpR (sw_cpR (sw_cpR (sw_cpG (sw_cpF wa))))))) (sw_cpR (sw_cpR (sw_cpR (sw_cpR (sw_cpR (sw_cpG (sw_cpF wb))))))) (by decide) (by decide) (by decide) rfl (by decide) (by decide)]
  rw [c_copyR (k := 8) (sw_cpR (sw_cpR (sw_cpR (sw_cpR (sw_cpR (sw_cpR (sw_cpG (sw_cpF wa)))))))) (sw_cpR (sw_cpR (sw_cpR (sw_cpR (sw_cpR (sw_cpR (sw_cpG (sw_cpF wb)))))))) (by decide) (by decide) (by decide) rfl (by decide) (by decide), cpS]
theorem ch_cpS {h : Hp} {a b : Nat} {P : Nat → Prop} (e : ∀ j, j ≤ 8 → P (a + j)) : Ch h (cpS h a b) P := by
  have e0 : P a := e 0 (by omega)
  have f : Ch h (cpF h a b) P := ch_trans (ch_trans (ch_trans (ch_trans (ch_trans (ch_sI e0) (ch_sI e0)) (ch_sI e0)) (ch_sI e0)) (ch_sL e0)) (ch_sI e0)
  have f1 : Ch h (cpG (cpF h a b) a b) P := ch_trans f (ch_wL (e 1 (by omega)))
  exact ch_trans (ch_trans (ch_trans (ch_trans (ch_trans (ch_trans (ch_trans f1 (ch_wI (e 2 (by omega)))) (ch_wI (e 3 (by omega)))) (ch_wI (e 4 (by omega)))) (ch_wI (e 5 (by omega)))) (ch_wI (e 6 (by omega)))) (ch_wI (e 7 (by omega)))) (ch_wI (e 8 (by omega)))
/-- what was copied -/
theorem cpR_o {h : Hp} {a b k n x : Nat} (hx : x ≠ a + k) : aI (cpR h a b k n) x = aI h x := by unfold cpR; rw [aI_wI, if_neg hx]
theorem cpR_h {h : Hp} {a b k n i : Nat} (hi : i < n) : aI (cpR h a b k n) (a + k) i = aI h (b + k) i := by unfold cpR; rw [aI_wI, if_pos rfl, vc_in hi]
theorem cpG_a {h : Hp} {a b x : Nat} : aI (cpG h a b) x = aI h x := aI_wL h _ _ x
theorem cpF_a {h : Hp} {a b x : Nat} : aI (cpF h a b) x = aI h x := by unfold cpF; rw [aI_sI', aI_sL, aI_sI', aI_sI', aI_sI', aI_sI']
theorem cpF_l {h : Hp} {a b x : Nat} : aL (cpF h a b) x = aL h x := by unfold cpF; rw [aL_sI, aL_sL, aL_sI, aL_sI, aL_sI, aL_sI]
theorem cpS_a {h : Hp} {a b k i : Nat} (hab : a + 8 < b ∨ b + 8 < a) (h1 : 2 ≤ k) (h2 : k ≤ 8) (hi : i < len7 k) : aI (cpS h a b) (a + k) i = aI h (b + k) i := by
  have : k = 2 ∨ k = 3 ∨ k = 4 ∨ k = 5 ∨ k = 6 ∨ k = 7 ∨ k = 8 := by omega
  unfold cpS
  rcases this with e | e | e | e | e | e | e <;> subst e
  · rw [cpR_o (by omega), cpR_o (by omega), cpR_o (by omega), cpR_o (by omega), cpR_o (by omega), cpR_o (by omega), cpR_h (by exact hi), cpG_a, cpF_a]
  · rw [cpR_o (by omega), cpR_o (by omega), cpR_o (by omega), cpR_o (by omega), cpR_o (by omega), cpR_h (by exact hi), cpR_o (by omega), cpG_a, cpF_a]
  · rw [cpR_o (by omega), cpR_o (by omega), cpR_o (by omega), cpR_o (by omega), cpR_h (by exact hi), cpR_o (by omega), cpR_o (by omega), cpG_a, cpF_a]
  · rw [cpR_o (by omega), cpR_o (by omega), cpR_o (by omega), cpR_h (by exact hi), cpR_o (by omega), cpR_o (by omega), cpR_o (by omega), cpG_a, cpF_a]
  · rw [cpR_o (by omega), cpR_o (by omega), cpR_h (by exact hi), cpR_o (by omega), cpR_o (by omega), cpR_o (by omega), cpR_o (by omega), cpG_a, cpF_a]
  · rw [cpR_o (by omega), cpR_h (by exact hi), cpR_o (by omega), cpR_o (by omega), cpR_o (by omega), cpR_o (by omega), cpR_o (by omega), cpG_a, cpF_a]
  · rw [cpR_h (by exact hi), cpR_o (by omega), cpR_o (by omega), cpR_o (by omega), cpR_o (by omega), cpR_o (by omega), cpR_o (by omega), cpG_a, cpF_a]
theorem cpS_l {h : Hp} {a b i : Nat} (hi : i < 464) : aL (cpS h a b) (a + 1) i = aL h (b + 1) i := by
  unfold cpS
  rw [aL_cpR, aL_cpR, aL_cpR, aL_cpR, aL_cpR, aL_cpR, aL_cpR]
  unfold cpG
  rw [aL_wL, if_pos rfl, vc_in hi, cpF_l]
theorem cpS_f {h : Hp} {a b : Nat} : hI (cpS h a b) (gq 7 0) a = hI h (gq 7 0) b ∧ hI (cpS h a b) (gq 7 1) a = hI h (gq 7 1) b ∧ hI (cpS h a b) (gq 7 3) a = hI h (gq 7 3) b ∧ hI (cpS h a b) (gq 7 4) a = hI h (gq 7 4) b ∧ hI (cpS h a b) (gq 7 12) a = hI h (gq 7 12) b ∧ hL (cpS h a b) (gq 7 10) a = hL h (gq 7 10) b := by
  have e : ∀ f, hI (cpS h a b) f a = hI (cpF h a b) f a := fun f => by unfold cpS; rw [hI_cpR, hI_cpR, hI_cpR, hI_cpR, hI_cpR, hI_cpR, hI_cpR, hI_cpG]
  have e' : ∀ f, hL (cpS h a b) f a = hL (cpF h a b) f a := fun f => by unfold cpS; rw [hL_cpR, hL_cpR, hL_cpR, hL_cpR, hL_cpR, hL_cpR, hL_cpR, hL_cpG]
  rw [e, e, e, e, e, e']
  unfold cpF
  simp [hI_sI, hI_sL, hL_sI, hL_sL, gq]
theorem sc_eqh {h h' : Hp} {a b : Nat} {p : MS} (f0 : hI h' (gq 7 0) a = hI h (gq 7 0) b) (f1 : hI h' (gq 7 1) a = hI h (gq 7 1) b) (f3 : hI h' (gq 7 3) a = hI h (gq 7 3) b) (f4 : hI h' (gq 7 4) a = hI h (gq 7 4) b) (f12 : hI h' (gq 7 12) a = hI h (gq 7 12) b) (f10 : hL h' (gq 7 10) a = hL h (gq 7 10) b) (ea : ∀ k i, 2 ≤ k → k ≤ 8 → i < len7 k → aI h' (a + k) i = aI h (b + k) i) (el : ∀ i, i < 464 → aL h' (a + 1) i = aL h (b + 1) i) (c : SC (rdS b h) p) : SC (rdS a h') p := by
  obtain ⟨c0, c1, c2, c3, c4, c5, c6, c7, U, c8, c9, c10⟩ := c
  have ea' : ∀ k i, 2 ≤ k → k ≤ 8 → i < len7 k → tA (rdS a h') k i = tA (rdS b h) k i := fun k i h1 h2 hi => ea k i h1 h2 hi
  have g0 : tF (rdS a h') 0 = tF (rdS b h) 0 := f0
  have g1 : tF (rdS a h') 1 = tF (rdS b h) 1 := f1
  have g3 : tF (rdS a h') 3 = tF (rdS b h) 3 := f3
  have g4 : tF (rdS a h') 4 = tF (rdS b h) 4 := f4
  have g12 : tF (rdS a h') 12 = tF (rdS b h) 12 := f12
  have g10 : tG (rdS a h') 10 = tG (rdS b h) 10 := f10
  have gl : ∀ i, i < 464 → tK (rdS a h') 1 i = tK (rdS b h) 1 i := fun i hi => el i hi
  refine ⟨c0, g0.trans c1, g1.trans c2, g4.trans c3, fun k hk => ?_, ?_, fun l h1 h2 h3 => ?_, ⟨g3.trans c7.1, fun i hi => (gl i (by omega)).trans (c7.2 i hi)⟩, U, g10.trans c8, c9, fun k hk => ?_⟩
  · rw [ea' 2 k (by decide) (by decide) hk, ea' 3 k (by decide) (by decide) hk, ea' 4 k (by decide) (by decide) hk, ea' 5 k (by decide) (by decide) hk, ea' 6 k (by decide) (by decide) hk]; exact c4 k hk
  · obtain ⟨V, v1, v2, v3⟩ := c5
    exact ⟨V, v1, g12.trans v2, v3⟩
  · rw [ea' 8 l (by decide) (by decide) (show l < 9 by omega)]; exact c6 l h1 h2 h3
  · rw [ea' 7 k (by decide) (by decide) hk]; exact c10 k hk
theorem sc_copy {h : Hp} {a b : Nat} {p : MS} (hab : a + 8 < b ∨ b + 8 < a) (c : SC (rdS b h) p) : SC (rdS a (cpS h a b)) p := by
  obtain ⟨f0, f1, f3, f4, f12, f10⟩ := cpS_f (h := h) (a := a) (b := b)
  exact sc_eqh f0 f1 f3 f4 f12 f10 (fun k i h1 h2 hi => cpS_a hab h1 h2 hi) (fun i hi => cpS_l hi) c
