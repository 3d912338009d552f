/-! ===== THE STORE by itself: what it keeps ===== -/
def prs (p : MS) : Nat → Nat
  | 0 => 0
  | n + 1 => prs p n + (if mA p 27 n = 0 then 0 else 1)
theorem prs_same {p p' : MS} : ∀ (n : Nat), (∀ k, k < n → (mA p' 27 k = 0 ↔ mA p 27 k = 0)) → prs p' n = prs p n
  | 0, _ => rfl
  | n + 1, h => by
    unfold prs
    rw [prs_same n (fun k hk => h k (by omega))]
    by_cases e : mA p 27 n = 0
    · rw [if_pos e, if_pos ((h n (by omega)).mpr e)]
    · rw [if_neg e, if_neg (fun q => e ((h n (by omega)).mp q))]
theorem prs_put {p p' : MS} {k : Nat} : ∀ (n : Nat), (∀ j, j ≠ k → (mA p' 27 j = 0 ↔ mA p 27 j = 0)) → prs p' n ≤ prs p n + 1
  | 0, _ => Nat.zero_le _
  | n + 1, h => by
    unfold prs
    by_cases e : n = k
    · rw [prs_same n (fun j hj => h j (by omega))]; split <;> split <;> omega
    · have := prs_put n h
      by_cases z : mA p 27 n = 0
      · rw [if_pos z, if_pos ((h n e).mpr z)]; omega
      · rw [if_neg z, if_neg (fun q => z ((h n e).mp q))]; omega
theorem prs_gone {p p' : MS} {k : Nat} (h : ∀ j, j ≠ k → (mA p' 27 j = 0 ↔ mA p 27 j = 0)) (h0 : mA p' 27 k = 0) (h1 : mA p 27 k ≠ 0) : ∀ (n : Nat), k < n → prs p' n + 1 = prs p n
  | 0, hk => by omega
  | n + 1, hk => by
    unfold prs
    by_cases e : n = k
    · rw [prs_same n (fun j hj => h j (by omega)), e, if_pos h0, if_neg h1]
    · have := prs_gone h h0 h1 n (by omega)
      by_cases z : mA p 27 n = 0
      · rw [if_pos z, if_pos ((h n e).mpr z)]; omega
      · rw [if_neg z, if_neg (fun q => z ((h n e).mp q))]; omega
/-- the events: how many, of which revisions and keys -/
def PV (p : MS) (R : Nat) : Prop := mF p 47 = Int32.ofNat (nE p) ∧ R ≤ nE p + 1 ∧ (∀ i, i < nE p → ∃ r, mA p 34 i = Int32.ofNat r ∧ r ≤ R) ∧ (∀ i, i < nE p → (∃ k, k < 64 ∧ mA p 35 i = Int32.ofNat k) ∧ (mA p 37 i = 1 ∨ (mA p 37 i = 0 ∧ mA p 36 i = 0))) ∧ ∀ i j, i ≤ j → j < nE p → (mA p 34 i).toNatClampNeg ≤ (mA p 34 j).toNatClampNeg
def PI (p : MS) (N : Nat) : Prop := (∃ R C, mF p 40 = Int32.ofNat R ∧ 1 ≤ R ∧ mF p 42 = Int32.ofNat C ∧ C ≤ R ∧ PV p R) ∧ nE p + prs p 64 ≤ 2 * N ∧ (∀ k, k < 64 → ∃ v, mA p 27 k = Int32.ofNat v ∧ v ≤ N) ∧ ∀ l, mA p 32 l = 0 ∨ mA p 32 l = 1
theorem nE_ev {p : MS} {k : Nat} {b v : Int32} (h : nE p < 100000) : nE (pEv p k b v) = nE p + 1 := by
  show (mF (pEv p k b v) 47).toNatClampNeg = nE p + 1
  unfold pEv; rw [mF_h]; exact io_cl (by omega)
theorem ev_x {p : MS} {k : Nat} {b v : Int32} {x i : Nat} (h : x < 34 ∨ 37 < x ∨ i ≠ nE p) : mA (pEv p k b v) x i = mA p x i := by
  unfold pEv
  rw [mA_uF, mA_uA, if_neg (by omega), mA_uA, if_neg (by omega), mA_uA, if_neg (by omega), mA_uA, if_neg (by omega)]
theorem ev_n {p : MS} {k : Nat} {b v : Int32} : mA (pEv p k b v) 34 (nE p) = mF p 40 ∧ mA (pEv p k b v) 35 (nE p) = Int32.ofNat k ∧ mA (pEv p k b v) 36 (nE p) = v ∧ mA (pEv p k b v) 37 (nE p) = b := by
  unfold pEv; simp [mA_uF, mA_uA]
theorem ev_f {p : MS} {k : Nat} {b v : Int32} {f : Nat} (h : f ≠ 47) : mF (pEv p k b v) f = mF p f := by
  unfold pEv; rw [mF_n _ _ h]; rfl
/-- one event more, of revision R -/
theorem pv_ev {p : MS} {R R' k : Nat} {b v : Int32} (h : PV p R') (hR' : R' ≤ R) (hR : mF p 40 = Int32.ofNat R) (h1 : R ≤ nE p + 2) (hk : k < 64) (hb : b = 1 ∨ (b = 0 ∧ v = 0)) (hn : nE p < 100000) : PV (pEv p k b v) R := by
  obtain ⟨a1, a2, a3, a4, a5⟩ := h
  obtain ⟨n1, n2, n3, n4⟩ := ev_n (p := p) (k := k) (b := b) (v := v)
  have en := nE_ev (k := k) (b := b) (v := v) hn
  unfold PV
  rw [en]
  refine ⟨?_, by omega, fun i hi => ?_, fun i hi => ?_, fun i j hij hj => ?_⟩
  · unfold pEv; exact mF_h _ _ _
  · by_cases e : i = nE p
    · subst e; exact ⟨R, n1.trans hR, Nat.le_refl _⟩
    · rw [ev_x (Or.inr (Or.inr e))]
      obtain ⟨r, r1, r2⟩ := a3 i (by omega)
      exact ⟨r, r1, by omega⟩
  · by_cases e : i = nE p
    · subst e; rw [n2, n3, n4]; exact ⟨⟨k, hk, rfl⟩, hb⟩
    · rw [ev_x (Or.inr (Or.inr e)), ev_x (Or.inr (Or.inr e)), ev_x (Or.inr (Or.inr e))]; exact a4 i (by omega)
  · by_cases e : j = nE p
    · subst e
      rw [n1, hR, io_cl (by omega)]
      by_cases e2 : i = nE p
      · subst e2; rw [n1, hR, io_cl (by omega)]; exact Nat.le_refl _
      · rw [ev_x (Or.inr (Or.inr e2))]
        obtain ⟨r, r1, r2⟩ := a3 i (by omega)
        rw [r1, io_cl (by omega)]; omega
    · rw [ev_x (Or.inr (Or.inr e)), ev_x (Or.inr (Or.inr (show i ≠ nE p by omega)))]; exact a5 i j hij (by omega)
theorem pv_same {p p' : MS} {R : Nat} (h : PV p R) (e : ∀ x i, 34 ≤ x → x ≤ 37 → mA p' x i = mA p x i) (f : mF p' 47 = mF p 47) : PV p' R := by
  have en : nE p' = nE p := by unfold nE; rw [f]
  unfold PV at *
  rw [en, f]
  simp only [e 34 _ (by decide) (by decide), e 35 _ (by decide) (by decide), e 36 _ (by decide) (by decide), e 37 _ (by decide) (by decide)]
  exact h
theorem pi_N {p : MS} {N N' : Nat} (h : PI p N) (hN : N ≤ N') : PI p N' := ⟨h.1, by have := h.2.1; omega, fun k hk => (h.2.2.1 k hk).imp (fun v q => ⟨q.1, by omega⟩), h.2.2.2⟩
/-- rows that PI doesn't look at, leases -/
theorem pi_same {p p' : MS} {N : Nat} (h : PI p N) (e : ∀ x i, x ≠ 33 → x ≠ 32 → mA p' x i = mA p x i) (e2 : ∀ l, mA p' 32 l = 0 ∨ mA p' 32 l = 1) (f : ∀ k, k ≠ 41 → mF p' k = mF p k) : PI p' N := by
  obtain ⟨⟨R, C, a1, a2, a3, a4, a5⟩, b1, b2, b3⟩ := h
  have en : nE p' = nE p := by unfold nE; rw [f 47 (by decide)]
  refine ⟨⟨R, C, (f 40 (by decide)).trans a1, a2, (f 42 (by decide)).trans a3, a4, pv_same a5 (fun x i h1 h2 => e x i (by omega) (by omega)) (f 47 (by decide))⟩, ?_, fun k hk => ?_, e2⟩
  · rw [en, prs_same (p := p) (p' := p') 64 (fun k _ => by rw [e 27 k (by decide) (by decide)])]; exact b1
  · rw [e 27 k (by decide) (by decide)]; exact b2 k hk
theorem ca_x {p : MS} {k x i : Nat} (h : x ≠ 28) : mA (pCa p k) x i = mA p x i := by
  unfold pCa; split
  · exact mA_k _ _ _ _ h
  · rfl
theorem ca_f {p : MS} {k f : Nat} : mF (pCa p k) f = mF p f := by unfold pCa; split <;> rfl
theorem pu_x {p : MS} {k : Nat} {v l : Int32} {x i : Nat} (h : x ≠ 27 ∧ x ≠ 29 ∧ x ≠ 30 ∧ x ≠ 31) : mA (pPu p k v l) x i = mA p x i := by
  unfold pPu; rw [mA_k _ _ _ _ (by omega), mA_k _ _ _ _ (by omega), mA_k _ _ _ _ (by omega), mA_k _ _ _ _ (by omega)]
theorem pu_27 {p : MS} {k : Nat} {v l : Int32} {i : Nat} : mA (pPu p k v l) 27 i = if i = k then mA p 27 k + 1 else mA p 27 i := by
  unfold pPu
  rw [mA_k _ _ _ _ (by omega), mA_k _ _ _ _ (by omega), mA_k _ _ _ _ (by omega), mA_uA]
  simp only [true_and]
theorem pu_f {p : MS} {k : Nat} {v l : Int32} {f : Nat} : mF (pPu p k v l) f = mF p f := rfl
theorem pi_put {p : MS} {N k : Nat} {v l : Int32} (h : PI p N) (hk : k < 64) (hN : N < 10000) : PI (pPut p k v l) (N + 1) := by
  obtain ⟨⟨R, C, a1, a2, a3, a4, a5⟩, b1, b2, b3⟩ := h
  obtain ⟨q1, q2⟩ : nE p ≤ 2 * N ∧ R ≤ nE p + 1 := ⟨by omega, a5.2.1⟩
  obtain ⟨p1, hp1⟩ : ∃ p1, p1 = pPu (pCa (uF p 40 (mF p 40 + 1)) k) k v l := ⟨_, rfl⟩
  have ep : pPut p k v l = pEv p1 k 1 v := by rw [hp1]; rfl
  have e1 : ∀ x i, 32 ≤ x → mA p1 x i = mA p x i := fun x i hx => by rw [hp1, pu_x (by omega), ca_x (by omega)]; rfl
  have f1 : ∀ f, f ≠ 40 → mF p1 f = mF p f := fun f hf => by rw [hp1, pu_f, ca_f, mF_n _ _ hf]
  have f40 : mF p1 40 = Int32.ofNat (R + 1) := by rw [hp1, pu_f, ca_f, mF_h, a1, io_a1]
  have n1 : nE p1 = nE p := by unfold nE; rw [f1 47 (by decide)]
  have v1 : ∀ i, mA p1 27 i = if i = k then mA p 27 k + 1 else mA p 27 i := fun i => by
    rw [hp1, pu_27, ca_x (by decide), ca_x (by decide)]; rfl
  have en := nE_ev (p := p1) (k := k) (b := 1) (v := v) (by omega)
  have ev27 : ∀ i, mA (pEv p1 k 1 v) 27 i = mA p1 27 i := fun i => ev_x (Or.inl (by decide))
  rw [ep]
  refine ⟨⟨R + 1, C, (ev_f (by decide)).trans f40, by omega, ((ev_f (by decide)).trans (f1 42 (by decide))).trans a3, by omega, pv_ev (R' := R) (pv_same a5 (fun x i h1 h2 => e1 x i (by omega)) (f1 47 (by decide))) (by omega) f40 (by omega) hk (Or.inl rfl) (by omega)⟩, ?_, fun j hj => ?_, fun j => ?_⟩
  · have := prs_put (p := p) (p' := pEv p1 k 1 v) (k := k) 64 (fun j hj => by rw [ev27, v1, if_neg hj])
    omega
  · rw [ev27, v1]
    obtain ⟨u, u1, u2⟩ := b2 j hj
    by_cases e : j = k
    · subst e; rw [if_pos rfl, u1, io_a1]; exact ⟨u + 1, rfl, by omega⟩
    · rw [if_neg e]; exact ⟨u, u1, by omega⟩
  · have : mA (pEv p1 k 1 v) 32 j = mA p 32 j := (ev_x (Or.inl (by decide))).trans (e1 32 j (by decide))
    rw [this]; exact b3 j
theorem rv_x {n : Nat} {p : MS} {x i : Nat} : mA (pRv n p) x i = mA p x i := by unfold pRv; split <;> rfl
theorem rv_f {n : Nat} {p : MS} {f : Nat} (h : f ≠ 40) : mF (pRv n p) f = mF p f := by
  unfold pRv; split
  · exact mF_n _ _ h
  · rfl
theorem go_x {p : MS} {k x i : Nat} (h : x < 27 ∨ 31 < x ∨ i ≠ k) : mA (pGo p k) x i = mA p x i := by
  unfold pGo
  rw [mA_uA, if_neg (by omega), mA_uA, if_neg (by omega), mA_uA, if_neg (by omega), mA_uA, if_neg (by omega), mA_uA, if_neg (by omega)]
theorem go_k {p : MS} {k x : Nat} (h : 27 ≤ x ∧ x ≤ 31) : mA (pGo p k) x k = 0 := by
  have : x = 27 ∨ x = 28 ∨ x = 29 ∨ x = 30 ∨ x = 31 := by omega
  rcases this with e | e | e | e | e <;> subst e <;> simp [pGo, mA_uA]
theorem go_f {p : MS} {k f : Nat} : mF (pGo p k) f = mF p f := rfl
/-- c keys went before in this command: the revision was raised for them -/
def PIr (p : MS) (N : Nat) (c : Nat) : Prop := PI p N ∧ (c ≠ 0 → ∃ R, mF p 40 = Int32.ofNat R ∧ R ≤ nE p)
theorem pi_gone {p : MS} {N k c : Nat} (h : PI p N) (hk : k < 64) (h27 : mA p 27 k ≠ 0) (hN : N < 10000) : PI (pGone (pRv c p) k) N := by
  obtain ⟨⟨R, C, a1, a2, a3, a4, a5⟩, b1, b2, b3⟩ := h
  obtain ⟨q1, q2⟩ : nE p ≤ 2 * N ∧ R ≤ nE p + 1 := ⟨by omega, a5.2.1⟩
  obtain ⟨p1, hp1⟩ : ∃ p1, p1 = pGo (pRv c p) k := ⟨_, rfl⟩
  have ep : pGone (pRv c p) k = pEv p1 k 0 0 := by rw [hp1]; rfl
  have e1 : ∀ x i, x < 27 ∨ 31 < x ∨ i ≠ k → mA p1 x i = mA p x i := fun x i hx => by rw [hp1, go_x hx, rv_x]
  have g1 : mA p1 27 k = 0 := by rw [hp1]; exact go_k (by decide)
  have f1 : ∀ f, f ≠ 40 → mF p1 f = mF p f := fun f hf => by rw [hp1, go_f, rv_f hf]
  obtain ⟨R', r1, r2, r3⟩ : ∃ R', mF p1 40 = Int32.ofNat R' ∧ R ≤ R' ∧ R' ≤ R + 1 := by
    by_cases z : c = 0
    · exact ⟨R + 1, by rw [hp1, go_f]; unfold pRv; rw [if_pos z, mF_h, a1, io_a1], by omega, by omega⟩
    · exact ⟨R, by rw [hp1, go_f]; unfold pRv; rw [if_neg z]; exact a1, by omega, by omega⟩
  have n1 : nE p1 = nE p := by unfold nE; rw [f1 47 (by decide)]
  have en := nE_ev (p := p1) (k := k) (b := 0) (v := 0) (by omega)
  have ev27 : ∀ i, mA (pEv p1 k 0 0) 27 i = mA p1 27 i := fun i => ev_x (Or.inl (by decide))
  rw [ep]
  refine ⟨⟨R', C, (ev_f (by decide)).trans r1, by omega, ((ev_f (by decide)).trans (f1 42 (by decide))).trans a3, by omega, pv_ev (R' := R) (pv_same a5 (fun x i h1 h2 => e1 x i (by omega)) (f1 47 (by decide))) r2 r1 (by omega) hk (Or.inr ⟨rfl, rfl⟩) (by omega)⟩, ?_, fun j hj => ?_, fun j => ?_⟩
  · have := prs_gone (p := p) (p' := pEv p1 k 0 0) (k := k) (fun j hj => by rw [ev27, e1 27 j (by omega)]) (by rw [ev27]; exact g1) h27 64 hk
    omega
  · rw [ev27]
    by_cases e : j = k
    · subst e; exact ⟨0, g1, by omega⟩
    · rw [e1 27 j (by omega)]; exact b2 j hj
  · have : mA (pEv p1 k 0 0) 32 j = mA p 32 j := (ev_x (Or.inl (by decide))).trans (e1 32 j (by omega))
    rw [this]; exact b3 j
theorem pi_rem {l : Int32} {N : Nat} (hN : N < 10000) : ∀ (d k c : Nat) (p : MS), PI p N → k + d ≤ 64 → PI (pRem l d k c p).1 N
  | 0, _, _, _, h, _ => h
  | d + 1, k, c, p, h, hk => by
    unfold pRem
    split
    · exact pi_rem hN d (k + 1) c p h (by omega)
    · rename_i z
      exact pi_rem hN d (k + 1) (c + 1) _ (pi_gone h (by omega) (fun q => z (Or.inl q)) hN) (by omega)
theorem pi_tk {N : Nat} (hN : N < 10000) : ∀ (d l : Nat) (p : MS), PI p N → PI (pTk d l p) N
  | 0, _, _, h => h
  | d + 1, l, p, h => by
    unfold pTk
    split
    · exact pi_tk hN d (l + 1) p h
    · refine pi_tk hN d (l + 1) _ (pi_rem hN 64 0 0 _ (pi_same h (fun x i h1 h2 => mA_k _ _ _ _ h2) (fun j => ?_) (fun _ _ => rfl)) (by omega))
      rw [mA_uA]; split
      · exact Or.inl rfl
      · exact h.2.2.2 j
theorem isK_n {x : Int32} (h : isK x) : pN x < 64 ∧ x = Int32.ofNat (pN x) := by
  have e := io_of h.1
  have l : x < Int32.ofNat 64 := h.2
  rw [e, io_lt (Int32.toNatClampNeg_lt x) (by decide)] at l
  exact ⟨l, e⟩
theorem pi_lease {p : MS} {N a : Nat} {v : Int32} (h : PI p N) (hv : v = 0 ∨ v = 1) : PI (uA p 32 a v) N := pi_same h (fun x i h1 h2 => mA_k _ _ _ _ h2) (fun j => by
  rw [mA_uA]; split
  · exact hv
  · exact h.2.2.2 j) (fun _ _ => rfl)
theorem pi_ends {p : MS} {N a : Nat} {v : Int32} (h : PI p N) : PI (uA p 33 a v) N := pi_same h (fun x i h1 h2 => mA_k _ _ _ _ h1) (fun j => by rw [mA_k _ _ _ _ (by decide)]; exact h.2.2.2 j) (fun _ _ => rfl)
theorem pi_done {p : MS} {N : Nat} {e : Nat → Int32} (h : PI p N) (he : legalE e) (hN : N < 9000) : PI (pDone e p).1 (N + 1) := by
  have h1 := pi_N h (Nat.le_succ N)
  unfold pDone
  rcases he.2 with z | ⟨z, k1, _⟩ | ⟨z, k1, k2⟩ | ⟨z, k1, k2, _⟩ | ⟨z, k1⟩ | z | z
  · rw [z]; exact h1
  · rw [if_pos z]
    split
    · exact h1
    · exact pi_put h (isK_n k1).1 (by omega)
  · rw [z, if_neg (by decide), if_pos rfl]
    exact pi_rem (N := N + 1) (by omega) _ _ _ _ h1 (by have := (isK_n k1).1; have := (isK_n k2).1; omega)
  · rw [z, if_neg (by decide), if_neg (by decide), if_pos rfl]
    split
    · exact pi_put h (isK_n k2).1 (by omega)
    · exact pi_rem (N := N + 1) (by omega) _ _ _ _ h1 (by have := (isK_n k2).1; omega)
  · rcases z with z | z | z <;> rw [z]
    · rw [if_neg (by decide), if_neg (by decide), if_neg (by decide), if_pos rfl]
      split
      · exact pi_ends (pi_lease h1 (Or.inr rfl))
      · exact h1
    · rw [if_neg (by decide), if_neg (by decide), if_neg (by decide), if_neg (by decide), if_pos rfl]
      split
      · exact h1
      · exact pi_rem (N := N + 1) (by omega) 64 0 0 _ (pi_lease h1 (Or.inl rfl)) (by omega)
    · rw [if_neg (by decide), if_neg (by decide), if_neg (by decide), if_neg (by decide), if_neg (by decide), if_pos rfl]
      split
      · exact h1
      · exact pi_ends h1
  · rw [z, if_neg (by decide), if_neg (by decide), if_neg (by decide), if_neg (by decide), if_neg (by decide), if_neg (by decide), if_pos rfl]
    exact pi_tk (N := N + 1) (by omega) 8 1 _ (pi_same h1 (fun _ _ _ _ => rfl) h1.2.2.2 (fun k hk => mF_n _ _ hk))
  · rw [z, if_neg (by decide), if_neg (by decide), if_neg (by decide), if_neg (by decide), if_neg (by decide), if_neg (by decide), if_neg (by decide), if_pos rfl]
    split
    · exact h1
    · rename_i y
      obtain ⟨⟨R, C, a1, a2, a3, a4, a5⟩, b1, b2, b3⟩ := h1
      have y1 : mF p 42 < e 2 := Int32.not_le.mp (fun q => y (Or.inl q))
      have y2 : e 2 ≤ mF p 40 := Int32.not_lt.mp (fun q => y (Or.inr q))
      have nn : 0 ≤ e 2 := i32_nn (by rw [a3, io_nl (by have := a5.2.1; omega)]; trivial) y1
      have ee := io_of nn
      have q2 : R ≤ nE p + 1 := a5.2.1
      rw [a1, ee, io_le (Int32.toNatClampNeg_lt _) (by omega)] at y2
      exact ⟨⟨R, (e 2).toNatClampNeg, (mF_n _ _ (by decide)).trans a1, a2, (mF_h _ _ _).trans ee, y2, pv_same a5 (fun _ _ _ _ => rfl) (mF_n _ _ (by decide))⟩, by
        have : nE (uF p 42 (e 2)) = nE p := by unfold nE; rw [mF_n _ _ (by decide)]
        rw [this, prs_same 64 (fun k _ => Iff.rfl)]; exact b1, b2, b3⟩
theorem prs_0 : ∀ n, prs pZero n = 0
  | 0 => rfl
  | n + 1 => by unfold prs; rw [prs_0 n]; rfl
theorem pi_zero : PI pZero 0 := ⟨⟨1, 0, rfl, by decide, rfl, by decide, ⟨rfl, by decide, fun i hi => absurd hi (Nat.not_lt_zero _), fun i hi => absurd hi (Nat.not_lt_zero _), fun i j _ hj => absurd hj (Nat.not_lt_zero _)⟩⟩, by rw [prs_0]; decide, fun k _ => ⟨0, rfl, by decide⟩, fun _ => Or.inl rfl⟩
theorem pi_rp {x : Nat → Nat → Int32} : ∀ (i : Nat), i < 5000 → (∀ j, 1 ≤ j → j ≤ i → legalE (x j)) → PI (rp x i) i
  | 0, _, _ => pi_zero
  | i + 1, hi, h => pi_done (pi_rp i (by omega) (fun j h1 h2 => h j h1 (by omega))) (h (i + 1) (by omega) (Nat.le_refl _)) (by omega)
