/-! ===== a store taken from a snapshot ===== -/
theorem hK_cpS (h : Hp) (a b x : Nat) : hK (cpS h a b) x = hK h x := by unfold cpS cpR cpG; rw [hK_wI, hK_wI, hK_wI, hK_wI, hK_wI, hK_wI, hK_wI, hK_wL, hK_cpF]
theorem hR_cpS (h : Hp) (a b f x : Nat) : hR (cpS h a b) f x = hR h f x := by unfold cpS cpR cpG; rw [hR_wI, hR_wI, hR_wI, hR_wI, hR_wI, hR_wI, hR_wI, hR_wL, hR_cpF]
theorem hZ_cpS (h : Hp) (a b : Nat) : hZ (cpS h a b) = hZ h := rfl
theorem sa_cpS {h : Hp} {a b x : Nat} (hx : x < a ∨ a + 8 < x) (hz : x < hZ h) : SA h (cpS h a b) x := (ch_cpS (P := fun y => a ≤ y ∧ y ≤ a + 8) (fun j hj => by omega)).2 x hz (by omega)
theorem aR_sI' (h : Hp) (f b : Nat) (v : Int32) (a : Nat) : aR (sI h f b v) a = aR h a := rfl
def cLd (h : Hp) (a st : Nat) (b : Int32) : Hp := sI (sI (sI (cpS h (a + 1) st) (gq 5 5) a b) (gq 5 10) a b) (gq 5 11) a b
theorem c_load {h : Hp} {a r st : Nat} {b : Int32} (k5 : hK h a = some (5, 0)) (r51 : hR h (gq 5 1) a = some (a + 1)) (r50 : hR h (gq 5 0) a = some (a + 13)) (k1 : hK h (a + 13) = some (1, 0)) (r13 : hR h (gq 1 3) (a + 13) = some r) (k6 : hK h r = some (6, 0)) (r60 : hR h (gq 6 0) r = some st) (i61 : hI h (gq 6 1) r = b) (wa : SW (a + 1) h) (ws : SW st h) (ne : st ≠ a + 1) (hr : r < a + 1 ∨ a + 9 < r) (hz : r < hZ h) : fX5_loadSnapshot a h = some ((), cLd h a st b) := by
  have s6 : SA h (cpS h (a + 1) st) r := sa_cpS (by omega) hz
  have i6 : hI (cpS h (a + 1) st) (gq 6 1) r = b := (s6.2.1 _).trans i61
  have k5' : hK (cpS h (a + 1) st) a = some (5, 0) := (hK_cpS _ _ _ _).trans k5
  have k1' : hK (cpS h (a + 1) st) (a + 13) = some (1, 0) := (hK_cpS _ _ _ _).trans k1
  have k6' : hK (cpS h (a + 1) st) r = some (6, 0) := (hK_cpS _ _ _ _).trans k6
  have r50' : hR (cpS h (a + 1) st) (gq 5 0) a = some (a + 13) := (hR_cpS _ _ _ _ _).trans r50
  have r13' : hR (cpS h (a + 1) st) (gq 1 3) (a + 13) = some r := (hR_cpS _ _ _ _ _).trans r13
  unfold fX5_loadSnapshot
  rw [gR_k k5, r51, bd_some, onR_some, gR_k k5, r50, bd_some, onR_some, gR_k k1, r13, bd_some, onR_some, gR_k k6, r60, bd_some, onR_some, if_pos wa.1, c_copy wa ws ne, bd2_some, gR_k k5', r50', bd_some, onR_some, gR_k k1', r13', bd_some, onR_some, gI_k k6', i6, bd_some, pI_k k5', bd_some]
  unfold cLd
  generalize cpS h (a + 1) st = h1 at *
  have e1 : hK (sI h1 (gq 5 5) a b) a = some (5, 0) := (hK_sI _ _ _ _ _).trans k5'
  have e2 : hK (sI (sI h1 (gq 5 5) a b) (gq 5 10) a b) a = some (5, 0) := (hK_sI _ _ _ _ _).trans e1
  rw [gI_k e1, bd_some, hI_sI, if_pos ⟨rfl, rfl⟩, pI_k e1, bd_some, gI_k e2, bd_some, hI_sI, if_neg (by simp [gq]), hI_sI, if_pos ⟨rfl, rfl⟩, pI_k e2, bd_some]
theorem ch_ld {X n st : Nat} {h : Hp} {b : Int32} : Ch h (cLd h (ndA X n) st b) (PNd X n) := ch_trans (ch_trans (ch_trans (ch_cpS (fun j hj => by unfold PNd; omega)) (ch_sI (by unfold PNd; omega))) (ch_sI (by unfold PNd; omega))) (ch_sI (by unfold PNd; omega))
/-- what a node reads behind it -/
theorem lw_i {h : Hp} {a st f x : Nat} {b : Int32} (hf : f ≠ gq 5 5 ∧ f ≠ gq 5 10 ∧ f ≠ gq 5 11) (hx : x = a ∨ x = a + 13) (hz : a + 13 < hZ h) : hI (cLd h a st b) f x = hI h f x := by
  unfold cLd
  rw [hI_sI, if_neg (fun q => hf.2.2 q.1), hI_sI, if_neg (fun q => hf.2.1 q.1), hI_sI, if_neg (fun q => hf.1 q.1)]
  exact (sa_cpS (by omega) (by omega)).2.1 _
theorem lw_5 {h : Hp} {a st : Nat} {b : Int32} : hI (cLd h a st b) (gq 5 5) a = b ∧ hI (cLd h a st b) (gq 5 10) a = b ∧ hI (cLd h a st b) (gq 5 11) a = b := by
  unfold cLd
  simp [hI_sI, gq]
theorem lw_a {h : Hp} {a st x : Nat} {b : Int32} (hx : x < a + 1 ∨ a + 9 < x) (hz : x < hZ h) : aI (cLd h a st b) x = aI h x ∧ aR (cLd h a st b) x = aR h x := by
  have s := sa_cpS (h := h) (a := a + 1) (b := st) (x := x) (by omega) hz
  unfold cLd
  rw [aI_sI', aI_sI', aI_sI', aR_sI', aR_sI', aR_sI']
  exact ⟨s.2.2.2.2.1, s.2.2.2.2.2.2⟩
theorem hK_ld (h : Hp) (a st x : Nat) (b : Int32) : hK (cLd h a st b) x = hK h x := by unfold cLd; rw [hK_sI, hK_sI, hK_sI, hK_cpS]
theorem hR_ld (h : Hp) (a st f x : Nat) (b : Int32) : hR (cLd h a st b) f x = hR h f x := by unfold cLd; rw [hR_sI, hR_sI, hR_sI, hR_cpS]
theorem sc_ld {h : Hp} {a st : Nat} {b : Int32} {p : MS} (hs : a + 9 < st ∨ st + 8 < a + 1) (c : SC (rdS st h) p) : SC (rdS (a + 1) (cLd h a st b)) p := by
  have c1 := sc_copy (a := a + 1) (b := st) (by omega) c
  unfold cLd
  generalize cpS h (a + 1) st = h1 at *
  exact sc_sa (fun j hj => sa_trans (sa_trans (sa_sI (by omega)) (sa_sI (by omega))) (sa_sI (by omega))) c1
theorem ns_eq {X : Nat} {h h' : Hp} {a n : Nat} (k : ∀ x, hK h' x = hK h x) (r : ∀ f x, (f ≠ gq 1 3 ∨ x ≠ a + 13) → hR h' f x = hR h f x) (i : hI h' (gq 5 6) a = hI h (gq 5 6) a) (w : NS X h a n) : NS X h' a n := by
  obtain ⟨⟨k0, k1, k2, k3, k4, k5, k6⟩, r0, r1, r2, r3, r4, r5, r6, r7, i'⟩ := w
  have k1' : SW (a + 1) h' := ⟨(k _).trans k1.1, fun j h1 h2 => (k _).trans (k1.2.1 j h1 h2), fun z hz => (r _ _ (Or.inr (by omega))).trans (k1.2.2 z hz)⟩
  exact ⟨⟨(k _).trans k0, k1', (k _).trans k2, (k _).trans k3, (k _).trans k4, (k _).trans k5, (k _).trans k6⟩, (r _ _ (Or.inl (by decide))).trans r0, (r _ _ (Or.inl (by decide))).trans r1, (r _ _ (Or.inl (by decide))).trans r2, (r _ _ (Or.inl (by decide))).trans r3, (r _ _ (Or.inl (by decide))).trans r4, (r _ _ (Or.inl (by decide))).trans r5, (r _ _ (Or.inl (by decide))).trans r6, (r _ _ (Or.inl (by decide))).trans r7, i.trans i'⟩
section
variable {X M : Nat} {h : Hp} {s : MS} {g : GH} {B K W n : Nat}
theorem im_off {X M n st : Nat} {h : Hp} (hn : n < 5) (hM : M = X + 92) (i0 : IM X M h st) (i8 : IM X M h (st + 8)) : ndA X n + 9 < st ∨ st + 8 < ndA X n + 1 := by
  unfold IM ndA at *; omega
/-- n starts -/
theorem rx_start (w : RX X M h s g K) (mi : MI s g B K W) (hn : n < 5) (hu : mA s 1 n = 0) : ∃ h', fX5_comeUp (ndA X n) h = some ((), h') ∧ CC X n h h' ∧ RX X M h' (oU n s) g K := by
  obtain ⟨d1, ⟨v1, v2, v3, v4, v5, v6, v7, v8, v9, v10⟩, ⟨⟨q, x, T, q1, q0, q2, q3⟩, d3⟩, d4⟩ := rx_n w hn
  have hM := rx_M w
  have hz : M + 40 ≤ hZ h := w.1.2.2.2.1
  obtain ⟨s1, s2, s3, s4, st, s5, s6, s7, s8⟩ := q3
  have z8 : mA s 8 n = 0 := (mi.2.1 n hn).2.2.2.2.2.2.1 hu
  have off := im_off hn hM (s6 0 (by omega)) (s6 8 (by omega))
  rw [Nat.add_zero] at off
  obtain ⟨h1', hh⟩ : ∃ h1, h1 = sI h (gq 5 3) (ndA X n) 1 := ⟨_, rfl⟩
  have c1 : Ch h h1' (PNd X n) := by rw [hh]; exact ch_sI (by unfold PNd; omega)
  have ndz : ndA X n + 14 < hZ h := by unfold ndA; omega
  have qo : q < ndA X n + 1 ∨ ndA X n + 9 < q := by unfold IM at s1; unfold ndA; omega
  have kk : ∀ y, hK h1' y = hK h y := fun y => by rw [hh, hK_sI]
  have rr' : ∀ f y, hR h1' f y = hR h f y := fun f y => by rw [hh, hR_sI]
  have i1 : ∀ f, f ≠ gq 5 3 → ∀ x, hI h1' f x = hI h f x := fun f hf x => by rw [hh, hI_sI, if_neg (fun z => hf z.1)]
  have i3 : hI h1' (gq 5 3) (ndA X n) = 1 := by rw [hh, hI_sI, if_pos ⟨rfl, rfl⟩]
  have a1 : ∀ x, aI h1' x = aI h x ∧ aR h1' x = aR h x := fun x => by rw [hh, aI_sI', aR_sI']; exact ⟨rfl, rfl⟩
  have hzz : hZ h1' = hZ h := by rw [hh, hZ_sI]
  have k5 : hK h1' (ndA X n) = some (5, 0) := (kk _).trans (q_k5 w hn)
  have b4 := mi_4 mi hn
  have ld : fX5_loadSnapshot (ndA X n) h1' = some ((), cLd h1' (ndA X n) st (mA s 4 n)) := c_load (r := q) k5 ((rr' _ _).trans d1.2.2.1) ((rr' _ _).trans d1.2.1) ((kk _).trans (q_k1 w hn)) ((rr' _ _).trans q1) ((kk _).trans s2) ((rr' _ _).trans s5) ((i1 _ (by decide) _).trans s3) (sw_eq kk rr' (q_sw w hn)) (sw_eq kk rr' s7) (by omega) qo (by rw [hzz]; exact s1.1)
  have sc1 : SC (rdS st h1') (rp x (bsM s n)) := sc_sa (fun j hj => c1.2 _ (s6 j hj).1 (fun z => by have := (s6 j hj).2; unfold PNd ndA at z; omega)) s8
  have c2 : Ch h (cLd h1' (ndA X n) st (mA s 4 n)) (PNd X n) := ch_trans c1 ch_ld
  have fr := pn_fr c2 hn hM
  refine ⟨_, ?_, cc_nd c2 hn, rx_node w hn c2 (gle_refl g) (fun _ => rfl) ?_ ⟨ns_eq (fun y => (hK_ld _ _ _ _ _).trans (kk y)) (fun f y _ => (hR_ld _ _ _ _ _ _).trans (rr' f y)) ?_ d1, ?_, ⟨⟨q, x, T, ((hR_ld _ _ _ _ _ _).trans (rr' _ _)).trans q1, q0, ?_, ?_⟩, fun i i1' i2 => ?_⟩, fun _ => ⟨bsM s n, x, T, ?_, ?_, ?_, q2, sc_ld off sc1, fun i e1 e2 => ?_⟩⟩⟩
  · unfold fX5_comeUp pZ
    rw [if_pos ⟨q_k5 w hn, Or.inr rfl⟩, bd_some, ← hh, if_pos k5, ld, bd2_some]
  · exact nx_trans (nx_trans (nx_trans (nx_uA (by decide)) (nx_uA (by decide))) (nx_uA (by decide))) (nx_uA (by decide))
  · rw [lw_i (by decide) (Or.inl rfl) (by omega), i1 _ (by decide)]
  · unfold NV
    rw [lw_5.1, lw_5.2.2, lw_i (by decide) (Or.inl rfl) (by omega), lw_i (by decide) (Or.inl rfl) (by omega), lw_i (by decide) (Or.inl rfl) (by omega), lw_i (by decide) (Or.inr rfl) (by omega), lw_i (by decide) (Or.inr rfl) (by omega), lw_i (by decide) (Or.inr rfl) (by omega), lw_i (by decide) (Or.inr rfl) (by omega), i3, i1 _ (by decide), i1 _ (by decide), i1 _ (by decide), i1 _ (by decide), i1 _ (by decide), i1 _ (by decide), (lw_a (x := ndA X n + 11) (by omega) (by omega)).1, (lw_a (x := ndA X n + 12) (by omega) (by omega)).1, (a1 _).1, (a1 _).1]
    simp [oU, mA_uA, z8]
    exact ⟨v2.trans z8, (mi.2.1 n hn).2.2.1, v6, v7, v8, v9, v10⟩
  · have : bsM (oU n s) n = bsM s n := by simp [oU, bsM, mA_uA]
    rw [this]; exact q2
  · have e1 : bsM (oU n s) n = bsM s n := by simp [oU, bsM, mA_uA]
    have e2 : mA (oU n s) 4 n = mA s 4 n := by simp [oU, mA_uA]
    rw [e1, e2]; exact sv_fr fr ⟨s1, s2, s3, s4, st, s5, s6, s7, s8⟩
  · have e1 : bsM (oU n s) n = bsM s n := by simp [oU, bsM, mA_uA]
    have e2 : lsM (oU n s) n = lsM s n := by simp [oU, lsM, mA_uA]
    have e3 : lgM (oU n s) n i = lgM s n i := by unfold oU; rw [lg_uA (by decide), lg_uA (by decide), lg_uA (by decide), lg_uA (by decide)]
    rw [e1] at i1'; rw [e2] at i2; rw [e3]
    obtain ⟨e, f1, f2⟩ := d3 i i1' i2
    exact ⟨e, by rw [(lw_a (x := ndA X n + 14) (by omega) (by omega)).2, (a1 _).2]; exact f1, ev_fr fr f2⟩
  · rw [lw_5.2.1, b4]
  · have e1 : bsM (oU n s) n = bsM s n := by simp [oU, bsM, mA_uA]
    rw [e1]; exact Nat.le_refl _
  · have e1 : cmM (oU n s) n = bsM s n := by simp [oU, cmM, bsM, mA_uA]
    rw [e1]; exact Nat.le_refl _
  · have e3 : (mA (oU n s) 7 n).toNatClampNeg = bsM s n := by simp [oU, bsM, mA_uA]
    omega
end
