/-! ===== pictures that agree at an address ===== -/
def SA (h h' : Hp) (a : Nat) : Prop := hK h' a = hK h a ∧ (∀ f, hI h' f a = hI h f a) ∧ (∀ f, hL h' f a = hL h f a) ∧ (∀ f, hR h' f a = hR h f a) ∧ aI h' a = aI h a ∧ aL h' a = aL h a ∧ aR h' a = aR h a
theorem sa_refl (h : Hp) (a : Nat) : SA h h a := ⟨rfl, fun _ => rfl, fun _ => rfl, fun _ => rfl, rfl, rfl, rfl⟩
theorem sa_trans {h h' h'' : Hp} {a : Nat} (p : SA h h' a) (q : SA h' h'' a) : SA h h'' a := ⟨q.1.trans p.1, fun f => (q.2.1 f).trans (p.2.1 f), fun f => (q.2.2.1 f).trans (p.2.2.1 f), fun f => (q.2.2.2.1 f).trans (p.2.2.2.1 f), q.2.2.2.2.1.trans p.2.2.2.2.1, q.2.2.2.2.2.1.trans p.2.2.2.2.2.1, q.2.2.2.2.2.2.trans p.2.2.2.2.2.2⟩
theorem sa_sI {h : Hp} {f b a : Nat} {v : Int32} (e : a ≠ b) : SA h (sI h f b v) a := ⟨rfl, fun _ => if_neg (fun q => e q.2), fun _ => rfl, fun _ => rfl, rfl, rfl, rfl⟩
theorem sa_sL {h : Hp} {f b a : Nat} {v : Int64} (e : a ≠ b) : SA h (sL h f b v) a := ⟨rfl, fun _ => rfl, fun _ => if_neg (fun q => e q.2), fun _ => rfl, rfl, rfl, rfl⟩
theorem sa_sR {h : Hp} {f b a : Nat} {v : Option Nat} (e : a ≠ b) : SA h (sR h f b v) a := ⟨rfl, fun _ => rfl, fun _ => rfl, fun _ => if_neg (fun q => e q.2), rfl, rfl, rfl⟩
theorem sa_tI {h : Hp} {b i a : Nat} {v : Int32} (e : a ≠ b) : SA h (tI h b i v) a := ⟨rfl, fun _ => rfl, fun _ => rfl, fun _ => rfl, funext fun _ => if_neg (fun q => e q.1), rfl, rfl⟩
theorem sa_tL {h : Hp} {b i a : Nat} {v : Int64} (e : a ≠ b) : SA h (tL h b i v) a := ⟨rfl, fun _ => rfl, fun _ => rfl, fun _ => rfl, rfl, funext fun _ => if_neg (fun q => e q.1), rfl⟩
theorem sa_tR {h : Hp} {b i a : Nat} {v : Option Nat} (e : a ≠ b) : SA h (tR h b i v) a := ⟨rfl, fun _ => rfl, fun _ => rfl, fun _ => rfl, rfl, rfl, funext fun _ => if_neg (fun q => e q.1)⟩
theorem sa_wI {h : Hp} {b a : Nat} {v : Nat → Int32} (e : a ≠ b) : SA h (wI h b v) a := ⟨rfl, fun _ => rfl, fun _ => rfl, fun _ => rfl, if_neg e, rfl, rfl⟩
theorem sa_wL {h : Hp} {b a : Nat} {v : Nat → Int64} (e : a ≠ b) : SA h (wL h b v) a := ⟨rfl, fun _ => rfl, fun _ => rfl, fun _ => rfl, rfl, if_neg e, rfl⟩
theorem sa_nO {h : Hp} {c a : Nat} (e : a ≠ hZ h) : SA h (nO h c) a := ⟨if_neg e, fun _ => if_neg e, fun _ => if_neg e, fun _ => if_neg e, rfl, rfl, rfl⟩
theorem sa_nA {h : Hp} {t n a : Nat} (e : a ≠ hZ h) : SA h (nA h t n) a := ⟨if_neg e, fun _ => rfl, fun _ => rfl, fun _ => rfl, funext fun _ => if_neg e, funext fun _ => if_neg e, funext fun _ => if_neg e⟩
theorem sa_ps {h : Hp} {q a : Nat} {s : SS} (e : a < q ∨ q + 8 < a) : SA h (ps q h s) a := ⟨rfl, fun _ => if_neg (by omega), fun _ => if_neg (by omega), fun _ => rfl, funext fun _ => if_neg (by omega), funext fun _ => if_neg (by omega), rfl⟩
theorem sa_pm {h : Hp} {q a : Nat} {s : MS} (e : a < q ∨ q + 38 < a) : SA h (pm q h s) a := ⟨rfl, fun _ => if_neg (by omega), fun _ => rfl, fun _ => rfl, funext fun _ => if_neg (by omega), rfl, rfl⟩
theorem sa_zH {h : Hp} {z a : Nat} : SA h (zH h z) a := sa_refl h a
/-- only what P names, or what is new, may have changed -/
def Ch (h h' : Hp) (P : Nat → Prop) : Prop := hZ h ≤ hZ h' ∧ ∀ a, a < hZ h → ¬ P a → SA h h' a
theorem ch_refl (h : Hp) (P : Nat → Prop) : Ch h h P := ⟨Nat.le_refl _, fun a _ _ => sa_refl h a⟩
theorem ch_trans {h h' h'' : Hp} {P : Nat → Prop} (p : Ch h h' P) (q : Ch h' h'' P) : Ch h h'' P := ⟨Nat.le_trans p.1 q.1, fun a ha hp => sa_trans (p.2 a ha hp) (q.2 a (Nat.lt_of_lt_of_le ha p.1) hp)⟩
theorem ch_mono {h h' : Hp} {P Q : Nat → Prop} (p : Ch h h' P) (f : ∀ a, a < hZ h → P a → Q a) : Ch h h' Q := ⟨p.1, fun a ha hq => p.2 a ha (fun z => hq (f a ha z))⟩
theorem ch_sI {h : Hp} {P : Nat → Prop} {f b : Nat} {v : Int32} (e : P b) : Ch h (sI h f b v) P := ⟨Nat.le_refl _, fun a _ hp => sa_sI (fun z => hp (by rw [z]; exact e))⟩
theorem ch_sL {h : Hp} {P : Nat → Prop} {f b : Nat} {v : Int64} (e : P b) : Ch h (sL h f b v) P := ⟨Nat.le_refl _, fun a _ hp => sa_sL (fun z => hp (by rw [z]; exact e))⟩
theorem ch_sR {h : Hp} {P : Nat → Prop} {f b : Nat} {v : Option Nat} (e : P b) : Ch h (sR h f b v) P := ⟨Nat.le_refl _, fun a _ hp => sa_sR (fun z => hp (by rw [z]; exact e))⟩
theorem ch_tI {h : Hp} {P : Nat → Prop} {b i : Nat} {v : Int32} (e : P b) : Ch h (tI h b i v) P := ⟨Nat.le_refl _, fun a _ hp => sa_tI (fun z => hp (by rw [z]; exact e))⟩
theorem ch_tL {h : Hp} {P : Nat → Prop} {b i : Nat} {v : Int64} (e : P b) : Ch h (tL h b i v) P := ⟨Nat.le_refl _, fun a _ hp => sa_tL (fun z => hp (by rw [z]; exact e))⟩
theorem ch_tR {h : Hp} {P : Nat → Prop} {b i : Nat} {v : Option Nat} (e : P b) : Ch h (tR h b i v) P := ⟨Nat.le_refl _, fun a _ hp => sa_tR (fun z => hp (by rw [z]; exact e))⟩
theorem ch_nO {h : Hp} {P : Nat → Prop} {c : Nat} : Ch h (nO h c) P := ⟨Nat.le_succ _, fun a ha _ => sa_nO (by omega)⟩
theorem ch_nA {h : Hp} {P : Nat → Prop} {t n : Nat} : Ch h (nA h t n) P := ⟨Nat.le_succ _, fun a ha _ => sa_nA (by omega)⟩
theorem ch_ps {h : Hp} {P : Nat → Prop} {q : Nat} {s : SS} (e : ∀ j, j ≤ 8 → P (q + j)) : Ch h (ps q h s) P := ⟨Nat.le_refl _, fun a _ hp => sa_ps (by
  by_cases z : a < q
  · exact Or.inl z
  · refine Or.inr ?_
    by_cases z' : q + 8 < a
    · exact z'
    · exact absurd (by have := e (a - q) (by omega); rwa [show q + (a - q) = a by omega] at this) hp)⟩
/-! ===== things that never change ===== -/
def IM (X M : Nat) (h : Hp) (a : Nat) : Prop := a < hZ h ∧ (M + 40 ≤ a ∨ (X + 6 ≤ a ∧ a ≤ X + 15))
def Fr (X M : Nat) (h h' : Hp) : Prop := hZ h ≤ hZ h' ∧ ∀ a, IM X M h a → SA h h' a
theorem fr_ch {X M : Nat} {h h' : Hp} {P : Nat → Prop} (c : Ch h h' P) (e : ∀ a, P a → a < M + 40 ∧ (a < X + 6 ∨ X + 15 < a)) : Fr X M h h' := ⟨c.1, fun a ha => c.2 a ha.1 (fun q => by have := e a q; have := ha.2; omega)⟩
theorem im_fr {X M : Nat} {h h' : Hp} {a : Nat} (f : Fr X M h h') (i : IM X M h a) : IM X M h' a := ⟨Nat.lt_of_lt_of_le i.1 f.1, i.2⟩
/-- the Entry at a is the row e -/
def EV (X M : Nat) (h : Hp) (a : Nat) (e : Nat → Int32) : Prop := IM X M h a ∧ hK h a = some (2, 0) ∧ hI h (gq 2 0) a = e 0 ∧ ∃ c, hR h (gq 2 1) a = some c ∧ IM X M h c ∧ hK h c = some (0, 0) ∧ ∀ j, j < 7 → hI h (gq 0 j) c = e (j + 1)
theorem ev_fr {X M : Nat} {h h' : Hp} {a : Nat} {e : Nat → Int32} (f : Fr X M h h') (v : EV X M h a e) : EV X M h' a e := by
  obtain ⟨i, k, t, c, r, ic, kc, tc⟩ := v
  have s := f.2 a i
  have sc := f.2 c ic
  exact ⟨im_fr f i, s.1.trans k, (s.2.1 _).trans t, c, (s.2.2.2.1 _).trans r, im_fr f ic, sc.1.trans kc, fun j hj => (sc.2.1 _).trans (tc j hj)⟩
def rdS (q : Nat) (h : Hp) : SS := (fun k i => aI h (q + k) i, fun f => hI h (gq 7 f) q, fun k i => aL h (q + k) i, fun f => hL h (gq 7 f) q)
theorem sw_sa {q : Nat} {h h' : Hp} (s : ∀ j, j ≤ 8 → SA h h' (q + j)) (w : SW q h) : SW q h' := by
  obtain ⟨w1, w2, w3⟩ := w
  have s0 := s 0 (by omega)
  exact ⟨s0.1.trans w1, fun k h1 h2 => (s k h2).1.trans (w2 k h1 h2), fun z hz => (s0.2.2.2.1 _).trans (w3 z hz)⟩
/-- what SC looks at -/
theorem sc_ss {t t' : SS} {p : MS} (e1 : ∀ k i, 2 ≤ k → k ≤ 8 → tA t' k i = tA t k i) (e2 : ∀ f, tF t' f = tF t f) (e3 : ∀ i, tK t' 1 i = tK t 1 i) (e4 : ∀ f, tG t' f = tG t f) (c : SC t p) : SC t' p := by
  unfold SC at *
  simp only [e2, e3, e4]
  obtain ⟨c0, c1, c2, c3, c4, c5, c6, c7, U, c8, c9, c10⟩ := c
  refine ⟨c0, c1, c2, c3, fun k hk => ?_, c5, fun l h1 h2 h3 => ?_, c7, U, c8, c9, fun k hk => ?_⟩
  · rw [e1 2 k (by decide) (by decide), e1 3 k (by decide) (by decide), e1 4 k (by decide) (by decide), e1 5 k (by decide) (by decide), e1 6 k (by decide) (by decide)]; exact c4 k hk
  · rw [e1 8 l (by decide) (by decide)]; exact c6 l h1 h2 h3
  · rw [e1 7 k (by decide) (by decide)]; exact c10 k hk
theorem sc_sa {q : Nat} {h h' : Hp} {p : MS} (s : ∀ j, j ≤ 8 → SA h h' (q + j)) (c : SC (rdS q h) p) : SC (rdS q h') p := by
  have s0 := s 0 (by omega)
  refine sc_ss (fun k i h1 h2 => ?_) (fun f => ?_) (fun i => ?_) (fun f => ?_) c
  · show aI h' (q + k) i = aI h (q + k) i; rw [(s k h2).2.2.2.2.1]
  · exact s0.2.1 _
  · show aL h' (q + 1) i = aL h (q + 1) i; rw [(s 1 (by omega)).2.2.2.2.2.1]
  · exact s0.2.2.1 _
/-- the Snapshot at a: BASE b, its TERM t, the store p -/
def SV (X M : Nat) (h : Hp) (a : Nat) (b t : Int32) (p : MS) : Prop := IM X M h a ∧ hK h a = some (6, 0) ∧ hI h (gq 6 1) a = b ∧ hI h (gq 6 2) a = t ∧ ∃ q, hR h (gq 6 0) a = some q ∧ (∀ j, j ≤ 8 → IM X M h (q + j)) ∧ SW q h ∧ SC (rdS q h) p
theorem sv_fr {X M : Nat} {h h' : Hp} {a : Nat} {b t : Int32} {p : MS} (f : Fr X M h h') (v : SV X M h a b t p) : SV X M h' a b t p := by
  obtain ⟨i, k, e1, e2, q, r, iq, w, c⟩ := v
  have s := f.2 a i
  exact ⟨im_fr f i, s.1.trans k, (s.2.1 _).trans e1, (s.2.1 _).trans e2, q, (s.2.2.2.1 _).trans r, fun j hj => im_fr f (iq j hj), sw_sa (fun j hj => f.2 _ (iq j hj)) w, sc_sa (fun j hj => f.2 _ (iq j hj)) c⟩
/-! ===== the class's objects hold the reference's state s ===== -/
def ndA (X n : Nat) : Nat := X + 17 + 15 * n
def ST (X M : Nat) (h : Hp) : Prop := (hK h X = some (9, 0) ∧ hK h (X + 1) = some (3, 0) ∧ hK h (X + 2) = some (15, 3000) ∧ hK h (X + 3) = some (8, 0) ∧ hK h (X + 4) = some (11, 1024) ∧ hK h (X + 5) = some (14, 1201) ∧ hK h (X + 16) = some (16, 5)) ∧ (hR h (gq 9 0) X = some (X + 16) ∧ hR h (gq 9 1) X = some (X + 1) ∧ hR h (gq 9 2) X = some (X + 3) ∧ hR h (gq 3 0) (X + 1) = some (X + 2) ∧ hR h (gq 8 0) (X + 3) = some (X + 4) ∧ hR h (gq 8 1) (X + 3) = some (X + 5)) ∧ (∀ n, n < 5 → aR h (X + 16) n = some (ndA X n)) ∧ M + 40 ≤ hZ h ∧ M = X + 92
/-- of the Node at a, number n: what never changes -/
def NS (X : Nat) (h : Hp) (a n : Nat) : Prop := (hK h a = some (5, 0) ∧ SW (a + 1) h ∧ hK h (a + 10) = some (11, 1201) ∧ hK h (a + 11) = some (11, 5) ∧ hK h (a + 12) = some (11, 5) ∧ hK h (a + 13) = some (1, 0) ∧ hK h (a + 14) = some (14, 1201)) ∧ hR h (gq 5 0) a = some (a + 13) ∧ hR h (gq 5 1) a = some (a + 1) ∧ hR h (gq 5 2) a = some (a + 10) ∧ hR h (gq 5 7) a = some (X + 1) ∧ hR h (gq 5 8) a = some (X + 3) ∧ hR h (gq 5 12) a = some (a + 11) ∧ hR h (gq 5 13) a = some (a + 12) ∧ hR h (gq 1 5) (a + 13) = some (a + 14) ∧ hI h (gq 5 6) a = Int32.ofNat n
/-- its ints -/
def NV (h : Hp) (s : MS) (a n : Nat) : Prop := hI h (gq 5 3) a = mA s 1 n ∧ hI h (gq 5 4) a = mA s 8 n ∧ hI h (gq 5 5) a = (if mA s 1 n = 0 then mA s 4 n else mA s 6 n) ∧ (mA s 8 n = 1 → hI h (gq 5 9) a = mA s 9 n) ∧ (mA s 1 n = 1 → hI h (gq 5 11) a = mA s 7 n ∧ 0 ≤ mA s 7 n) ∧ hI h (gq 1 0) (a + 13) = mA s 2 n ∧ hI h (gq 1 1) (a + 13) = mA s 3 n ∧ hI h (gq 1 2) (a + 13) = mA s 5 n ∧ hI h (gq 1 4) (a + 13) = mA s 10 n ∧ ∀ m, m < 5 → aI h (a + 11) m = mA s 11 (5 * n + m) ∧ aI h (a + 12) m = mA s 12 (5 * n + m)
/-- its disk -/
def NQ (X M : Nat) (h : Hp) (s : MS) (g : GH) (a n : Nat) : Prop := (∃ q x T, hR h (gq 1 3) (a + 13) = some q ∧ x 0 = e0M ∧ CPM g x T (bsM s n) ∧ SV X M h q (mA s 4 n) (x (bsM s n) 0) (rp x (bsM s n))) ∧ ∀ i, bsM s n < i → i ≤ lsM s n → ∃ q, aR h (a + 14) i = some q ∧ EV X M h q (lgM s n i)
/-- its store -/
def NT (h : Hp) (s : MS) (g : GH) (a n : Nat) : Prop := mA s 1 n = 1 → ∃ ap x T, hI h (gq 5 10) a = Int32.ofNat ap ∧ bsM s n ≤ ap ∧ ap ≤ cmM s n ∧ CPM g x T ap ∧ SC (rdS (a + 1) h) (rp x ap) ∧ ∀ i, (mA s 7 n).toNatClampNeg < i → i ≤ ap → aI h (a + 10) i = rr x i
/-- the Message at q is the reference's k-th -/
def MV (X M : Nat) (h : Hp) (s : MS) (g : GH) (q k : Nat) : Prop := (IM X M h q ∧ hK h q = some (4, 0) ∧ hI h (gq 4 0) q = mA s 15 k ∧ hI h (gq 4 1) q = mA s 16 k ∧ hI h (gq 4 2) q = mA s 17 k ∧ hI h (gq 4 3) q = mA s 18 k ∧ hI h (gq 4 4) q = mA s 19 k ∧ hI h (gq 4 5) q = mA s 20 k ∧ hI h (gq 4 7) q = mA s 22 k) ∧ (mA s 15 k = 2 → ∃ r c, hR h (gq 4 6) q = some r ∧ IM X M h r ∧ hK h r = some (14, c) ∧ mA s 21 k = Int32.ofNat c ∧ c ≤ 4 ∧ ∀ i, i < c → ∃ e, aR h r i = some e ∧ EV X M h e (crM s k i)) ∧ (mA s 15 k ≠ 2 → hR h (gq 4 6) q = none ∧ mA s 21 k = 0) ∧ (mA s 15 k = 5 → ∃ r x T, hR h (gq 4 8) q = some r ∧ x 0 = e0M ∧ CPM g x T (mA s 19 k).toNatClampNeg ∧ x (mA s 19 k).toNatClampNeg 0 = mA s 20 k ∧ SV X M h r (mA s 19 k) (mA s 20 k) (rp x (mA s 19 k).toNatClampNeg))
def ML (X M : Nat) (h : Hp) (s : MS) (g : GH) (K : Nat) : Prop := hI h (gq 3 1) (X + 1) = mF s 24 ∧ hI h (gq 3 2) (X + 1) = mF s 27 ∧ ∀ k, k < K → ∃ q, aR h (X + 2) k = some q ∧ MV X M h s g q k
def WI (X M : Nat) (h : Hp) (g : GH) : Prop := hI h (gq 8 2) (X + 3) = 0 ∧ (∀ T, T < 1024 → aI h (X + 4) T = Int32.ofNat (gD g T)) ∧ ∀ i q, i ≤ 1200 → aR h (X + 5) i = some q → ∃ x T k, CPM g x T k ∧ 1 ≤ i ∧ i ≤ k ∧ EV X M h q (x i)
def MO (X : Nat) (h : Hp) (s : MS) : Prop := hI h (gq 9 3) X = mF s 28 ∧ hI h (gq 9 4) X = mF s 29 ∧ hI h (gq 9 5) X = mF s 30 ∧ hI h (gq 9 6) X = mF s 31
def ND (X M : Nat) (h : Hp) (s : MS) (g : GH) (n : Nat) : Prop := NS X h (ndA X n) n ∧ NV h s (ndA X n) n ∧ NQ X M h s g (ndA X n) n ∧ NT h s g (ndA X n) n
def RX (X M : Nat) (h : Hp) (s : MS) (g : GH) (K : Nat) : Prop := ST X M h ∧ (∀ n, n < 5 → ND X M h s g n) ∧ ML X M h s g K ∧ WI X M h g ∧ MO X h s
/-! what stays when other addresses change -/
theorem st_sa {X M : Nat} {h h' : Hp} (w : ST X M h) (z : hZ h ≤ hZ h') (s : ∀ a, a ≤ X + 5 ∨ a = X + 16 → X ≤ a → (∀ f, a = X + 1 ∨ a = X + 3 ∨ a = X → hR h' f a = hR h f a) ∧ hK h' a = hK h a ∧ (a = X + 16 → aR h' a = aR h a)) : ST X M h' := by
  obtain ⟨⟨k0, k1, k2, k3, k4, k5, k6⟩, ⟨r1, r2, r3, r4, r5, r6⟩, n, z1, z2⟩ := w
  have t := fun a h1 h2 => (s a h1 h2).2.1
  refine ⟨⟨(t X (by omega) (by omega)).trans k0, (t _ (by omega) (by omega)).trans k1, (t _ (by omega) (by omega)).trans k2, (t _ (by omega) (by omega)).trans k3, (t _ (by omega) (by omega)).trans k4, (t _ (by omega) (by omega)).trans k5, (t _ (by omega) (by omega)).trans k6⟩, ⟨((s X (by omega) (by omega)).1 _ (by omega)).trans r1, ((s X (by omega) (by omega)).1 _ (by omega)).trans r2, ((s X (by omega) (by omega)).1 _ (by omega)).trans r3, ((s (X + 1) (by omega) (by omega)).1 _ (by omega)).trans r4, ((s (X + 3) (by omega) (by omega)).1 _ (by omega)).trans r5, ((s (X + 3) (by omega) (by omega)).1 _ (by omega)).trans r6⟩, fun m hm => ?_, by omega, z2⟩
  rw [(s (X + 16) (by omega) (by omega)).2.2 rfl]; exact n m hm
theorem ns_sa {X : Nat} {h h' : Hp} {a n : Nat} (s : ∀ b, a ≤ b → b ≤ a + 14 → SA h h' b) (w : NS X h a n) : NS X h' a n := by
  obtain ⟨⟨k0, k1, k2, k3, k4, k5, k6⟩, r0, r1, r2, r3, r4, r5, r6, r7, i⟩ := w
  have s0 := s a (by omega) (by omega)
  exact ⟨⟨s0.1.trans k0, sw_sa (fun j hj => s _ (by omega) (by omega)) k1, (s _ (by omega) (by omega)).1.trans k2, (s _ (by omega) (by omega)).1.trans k3, (s _ (by omega) (by omega)).1.trans k4, (s _ (by omega) (by omega)).1.trans k5, (s _ (by omega) (by omega)).1.trans k6⟩, (s0.2.2.2.1 _).trans r0, (s0.2.2.2.1 _).trans r1, (s0.2.2.2.1 _).trans r2, (s0.2.2.2.1 _).trans r3, (s0.2.2.2.1 _).trans r4, (s0.2.2.2.1 _).trans r5, (s0.2.2.2.1 _).trans r6, ((s (a + 13) (by omega) (by omega)).2.2.2.1 _).trans r7, (s0.2.1 _).trans i⟩
theorem nv_sa {h h' : Hp} {s s' : MS} {a n : Nat} (e : ∀ b, a ≤ b → b ≤ a + 14 → SA h h' b) (f : ∀ x, 1 ≤ x → x ≤ 10 → mA s' x n = mA s x n) (f2 : ∀ x m, x = 11 ∨ x = 12 → m < 5 → mA s' x (5 * n + m) = mA s x (5 * n + m)) (w : NV h s a n) : NV h' s' a n := by
  unfold NV at *
  have s0 := (e a (by omega) (by omega)).2.1
  have s1 := (e (a + 13) (by omega) (by omega)).2.1
  rw [s0, s0, s0, s0, s0, s1, s1, s1, s1, f 1 (by decide) (by decide), f 8 (by decide) (by decide), f 4 (by decide) (by decide), f 6 (by decide) (by decide), f 9 (by decide) (by decide), f 7 (by decide) (by decide), f 2 (by decide) (by decide), f 3 (by decide) (by decide), f 5 (by decide) (by decide), f 10 (by decide) (by decide)]
  obtain ⟨w1, w2, w3, w4, w5, w6, w7, w8, w9, w10⟩ := w
  refine ⟨w1, w2, w3, w4, w5, w6, w7, w8, w9, fun m hm => ?_⟩
  rw [(e (a + 11) (by omega) (by omega)).2.2.2.2.1, (e (a + 12) (by omega) (by omega)).2.2.2.2.1, f2 11 m (by decide) hm, f2 12 m (by decide) hm]
  exact w10 m hm
theorem nq_fr {X M : Nat} {h h' : Hp} {s s' : MS} {g g' : GH} {a n : Nat} (fr : Fr X M h h') (gl : GLe g g') (e1 : hR h' (gq 1 3) (a + 13) = hR h (gq 1 3) (a + 13)) (e2 : aR h' (a + 14) = aR h (a + 14)) (f4 : mA s' 4 n = mA s 4 n) (f5 : mA s' 5 n = mA s 5 n) (fl : ∀ i, lgM s' n i = lgM s n i) (w : NQ X M h s g a n) : NQ X M h' s' g' a n := by
  obtain ⟨⟨q, x, T, w1, w0, w2, w3⟩, w4⟩ := w
  have b : bsM s' n = bsM s n := by unfold bsM; rw [f4]
  have l : lsM s' n = lsM s n := by unfold lsM; rw [f5]
  refine ⟨⟨q, x, T, e1.trans w1, w0, ?_, ?_⟩, fun i h1 h2 => ?_⟩
  · rw [b]; exact cpm_mono gl (Nat.le_refl _) (ag_refl _ _) w2
  · rw [b, f4]; exact sv_fr fr w3
  · rw [b] at h1; rw [l] at h2
    obtain ⟨z, z1, z2⟩ := w4 i h1 h2
    rw [e2, fl]; exact ⟨z, z1, ev_fr fr z2⟩
theorem nt_fr {h h' : Hp} {s s' : MS} {g g' : GH} {a n : Nat} (gl : GLe g g') (e0 : hI h' (gq 5 10) a = hI h (gq 5 10) a) (e1 : ∀ j, j ≤ 8 → SA h h' (a + 1 + j)) (e2 : aI h' (a + 10) = aI h (a + 10)) (f1 : mA s' 1 n = mA s 1 n) (f4 : mA s' 4 n = mA s 4 n) (f7 : mA s' 7 n = mA s 7 n) (fc : cmM s n ≤ cmM s' n) (w : NT h s g a n) : NT h' s' g' a n := by
  intro u
  obtain ⟨ap, x, T, w1, w2, w3, w4, w5, w6⟩ := w (f1 ▸ u)
  have b : bsM s' n = bsM s n := by unfold bsM; rw [f4]
  refine ⟨ap, x, T, e0.trans w1, by rw [b]; exact w2, Nat.le_trans w3 fc, cpm_mono gl (Nat.le_refl _) (ag_refl _ _) w4, sc_sa e1 w5, fun i h1 h2 => ?_⟩
  rw [f7] at h1; rw [e2]; exact w6 i h1 h2
theorem mv_fr {X M : Nat} {h h' : Hp} {s s' : MS} {g g' : GH} {q k : Nat} (fr : Fr X M h h') (gl : GLe g g') (f : ∀ x, 15 ≤ x → x ≤ 22 → mA s' x k = mA s x k) (fc : ∀ i, i < 4 → crM s' k i = crM s k i) (w : MV X M h s g q k) : MV X M h' s' g' q k := by
  obtain ⟨⟨i, w1, w2, w3, w4, w5, w6, w7, w8⟩, w9, w10, w11⟩ := w
  have z := fr.2 q i
  refine ⟨⟨im_fr fr i, z.1.trans w1, ?_, ?_, ?_, ?_, ?_, ?_, ?_⟩, fun u => ?_, fun u => ?_, fun u => ?_⟩
  · rw [f 15 (by decide) (by decide)]; exact (z.2.1 _).trans w2
  · rw [f 16 (by decide) (by decide)]; exact (z.2.1 _).trans w3
  · rw [f 17 (by decide) (by decide)]; exact (z.2.1 _).trans w4
  · rw [f 18 (by decide) (by decide)]; exact (z.2.1 _).trans w5
  · rw [f 19 (by decide) (by decide)]; exact (z.2.1 _).trans w6
  · rw [f 20 (by decide) (by decide)]; exact (z.2.1 _).trans w7
  · rw [f 22 (by decide) (by decide)]; exact (z.2.1 _).trans w8
  · rw [f 15 (by decide) (by decide)] at u
    obtain ⟨r, c, u1, u2, u3, u4, u5, u6⟩ := w9 u
    refine ⟨r, c, (z.2.2.2.1 _).trans u1, im_fr fr u2, (fr.2 r u2).1.trans u3, ?_, u5, fun j hj => ?_⟩
    · rw [f 21 (by decide) (by decide)]; exact u4
    · obtain ⟨e, e1, e2⟩ := u6 j hj
      rw [(fr.2 r u2).2.2.2.2.2.2, fc j (by omega)]; exact ⟨e, e1, ev_fr fr e2⟩
  · rw [f 15 (by decide) (by decide)] at u
    rw [f 21 (by decide) (by decide)]
    exact ⟨(z.2.2.2.1 _).trans (w10 u).1, (w10 u).2⟩
  · rw [f 15 (by decide) (by decide)] at u
    rw [f 19 (by decide) (by decide), f 20 (by decide) (by decide)]
    obtain ⟨r, x, T, u1, u0, u2, u3, u4⟩ := w11 u
    exact ⟨r, x, T, (z.2.2.2.1 _).trans u1, u0, cpm_mono gl (Nat.le_refl _) (ag_refl _ _) u2, u3, sv_fr fr u4⟩
theorem ml_fr {X M : Nat} {h h' : Hp} {s s' : MS} {g g' : GH} {K : Nat} (fr : Fr X M h h') (gl : GLe g g') (e1 : SA h h' (X + 1)) (e2 : SA h h' (X + 2)) (f : ∀ x i, 15 ≤ x → x ≤ 25 → mA s' x i = mA s x i) (f1 : mF s' 24 = mF s 24) (f2 : mF s' 27 = mF s 27) (w : ML X M h s g K) : ML X M h' s' g' K := by
  obtain ⟨w1, w2, w3⟩ := w
  refine ⟨by rw [f1]; exact (e1.2.1 _).trans w1, by rw [f2]; exact (e1.2.1 _).trans w2, fun k hk => ?_⟩
  obtain ⟨q, q1, q2⟩ := w3 k hk
  rw [e2.2.2.2.2.2.2]
  exact ⟨q, q1, mv_fr fr gl (fun x h1 h2 => f x k h1 (by omega)) (fun i _ => by unfold crM; funext j; rw [f 23 _ (by decide) (by decide)]) q2⟩
theorem wi_fr {X M : Nat} {h h' : Hp} {g g' : GH} (fr : Fr X M h h') (gl : GLe g g') (gd : ∀ T, gD g' T = gD g T) (e3 : SA h h' (X + 3)) (e4 : SA h h' (X + 4)) (e5 : SA h h' (X + 5)) (w : WI X M h g) : WI X M h' g' := by
  obtain ⟨w1, w2, w3⟩ := w
  refine ⟨(e3.2.1 _).trans w1, fun T hT => by rw [e4.2.2.2.2.1, gd]; exact w2 T hT, fun i q hi hq => ?_⟩
  rw [e5.2.2.2.2.2.2] at hq
  obtain ⟨x, T, k, v1, v2, v3, v4⟩ := w3 i q hi hq
  exact ⟨x, T, k, cpm_mono gl (Nat.le_refl _) (ag_refl _ _) v1, v2, v3, ev_fr fr v4⟩
theorem nd_fr {X M : Nat} {h h' : Hp} {s s' : MS} {g g' : GH} {n : Nat} (fr : Fr X M h h') (gl : GLe g g') (e : ∀ b, ndA X n ≤ b → b ≤ ndA X n + 14 → SA h h' b) (f : ∀ x, 1 ≤ x → x ≤ 10 → mA s' x n = mA s x n) (f2 : ∀ x m, x = 11 ∨ x = 12 → m < 5 → mA s' x (5 * n + m) = mA s x (5 * n + m)) (fl : ∀ i, lgM s' n i = lgM s n i) (w : ND X M h s g n) : ND X M h' s' g' n := by
  obtain ⟨w1, w2, w3, w4⟩ := w
  refine ⟨ns_sa e w1, nv_sa e f f2 w2, nq_fr fr gl ((e _ (by omega) (by omega)).2.2.2.1 _) (e _ (by omega) (by omega)).2.2.2.2.2.2 (f 4 (by decide) (by decide)) (f 5 (by decide) (by decide)) fl w3, nt_fr gl ((e _ (by omega) (by omega)).2.1 _) (fun j hj => e _ (by omega) (by omega)) (e _ (by omega) (by omega)).2.2.2.2.1 (f 1 (by decide) (by decide)) (f 4 (by decide) (by decide)) (f 7 (by decide) (by decide)) ?_ w4⟩
  unfold cmM; rw [f 1 (by decide) (by decide), f 4 (by decide) (by decide), f 6 (by decide) (by decide)]; exact Nat.le_refl _
