/-! ===== rows that agree where it matters stay so ===== -/
theorem sm_n {s p : MS} (h : SM s p) : nE s = nE p := nE_f h.2.2.2.1
theorem sm_ev {s p : MS} {k : Nat} {b v : Int32} (h : SM s p) (hn : nE p < 100000) : SM (pEv s k b v) (pEv p k b v) := by
  obtain ⟨a1, a2, a3, a4, a5, a6, a7, a8⟩ := id h
  have en := sm_n h
  have e1 := nE_ev (k := k) (b := b) (v := v) hn
  have x : ∀ x i, x < 34 → mA (pEv s k b v) x i = mA s x i := fun x i hx => ev_x (Or.inl hx)
  have y : ∀ x i, x < 34 → mA (pEv p k b v) x i = mA p x i := fun x i hx => ev_x (Or.inl hx)
  refine ⟨by rw [ev_f (by decide), ev_f (by decide)]; exact a1, by rw [ev_f (by decide), ev_f (by decide)]; exact a2, by rw [ev_f (by decide), ev_f (by decide)]; exact a3, ?_, fun j hj => ?_, fun l hl => ?_, fun l hl q => ?_, fun i hi => ?_⟩
  · unfold pEv; rw [mF_h, mF_h, en]
  · rw [x 27 j (by decide), x 28 j (by decide), x 29 j (by decide), x 30 j (by decide), x 31 j (by decide), y 27 j (by decide), y 28 j (by decide), y 29 j (by decide), y 30 j (by decide), y 31 j (by decide)]; exact a5 j hj
  · rw [x 32 l (by decide), y 32 l (by decide)]; exact a6 l hl
  · rw [y 32 l (by decide)] at q; rw [x 33 l (by decide), y 33 l (by decide)]; exact a7 l hl q
  · rw [e1] at hi
    by_cases z : i = nE p
    · subst z
      obtain ⟨q1, q2, q3, q4⟩ := ev_n (p := p) (k := k) (b := b) (v := v)
      obtain ⟨r1, r2, r3, r4⟩ := ev_n (p := s) (k := k) (b := b) (v := v)
      rw [en] at r1 r2 r3 r4
      rw [q1, q2, q3, q4, r1, r2, r3, r4]; exact ⟨a1, rfl, rfl, rfl⟩
    · have z' : i ≠ nE s := by rw [en]; exact z
      rw [ev_x (p := s) (Or.inr (Or.inr z')), ev_x (p := s) (Or.inr (Or.inr z')), ev_x (p := s) (Or.inr (Or.inr z')), ev_x (p := s) (Or.inr (Or.inr z')), ev_x (p := p) (Or.inr (Or.inr z)), ev_x (p := p) (Or.inr (Or.inr z)), ev_x (p := p) (Or.inr (Or.inr z)), ev_x (p := p) (Or.inr (Or.inr z))]
      exact a8 i (by omega)
/-- one cell -/
theorem sm_uA {s p : MS} {x i : Nat} {v : Int32} (h : SM s p) (hx : x < 34) (hl : x ≠ 32) : SM (uA s x i v) (uA p x i v) := by
  obtain ⟨a1, a2, a3, a4, a5, a6, a7, a8⟩ := h
  have c : ∀ y j, mA s y j = mA p y j → mA (uA s x i v) y j = mA (uA p x i v) y j := fun y j q => by
    rw [mA_uA, mA_uA]; split
    · rfl
    · exact q
  refine ⟨a1, a2, a3, a4, fun k hk => ?_, fun l hl' => c 32 l (a6 l hl'), fun l hl' q => ?_, fun j hj => ?_⟩
  · obtain ⟨b1, b2, b3, b4, b5⟩ := a5 k hk
    exact ⟨c _ _ b1, c _ _ b2, c _ _ b3, c _ _ b4, c _ _ b5⟩
  · rw [mA_k _ _ _ _ (fun q => hl q.symm)] at q
    exact c 33 l (a7 l hl' q)
  · have j' : j < nE p := hj
    obtain ⟨b1, b2, b3, b4⟩ := a8 j j'
    exact ⟨c _ _ b1, c _ _ b2, c _ _ b3, c _ _ b4⟩
theorem sm_u0 {s p : MS} {i : Nat} (h : SM s p) : SM (uA s 32 i 0) (uA p 32 i 0) := by
  obtain ⟨a1, a2, a3, a4, a5, a6, a7, a8⟩ := h
  refine ⟨a1, a2, a3, a4, fun k hk => ?_, fun l hl => ?_, fun l hl q => ?_, fun j hj => ?_⟩
  · simp only [mA_k _ _ _ _ (show (27 : Nat) ≠ 32 by decide), mA_k _ _ _ _ (show (28 : Nat) ≠ 32 by decide), mA_k _ _ _ _ (show (29 : Nat) ≠ 32 by decide), mA_k _ _ _ _ (show (30 : Nat) ≠ 32 by decide), mA_k _ _ _ _ (show (31 : Nat) ≠ 32 by decide)]; exact a5 k hk
  · rw [mA_uA, mA_uA]; split
    · rfl
    · exact a6 l hl
  · rw [mA_k _ _ _ _ (by decide), mA_k _ _ _ _ (by decide)]
    rw [mA_uA] at q
    split at q
    · exact absurd q (by decide)
    · exact a7 l hl q
  · simp only [mA_k _ _ _ _ (show (34 : Nat) ≠ 32 by decide), mA_k _ _ _ _ (show (35 : Nat) ≠ 32 by decide), mA_k _ _ _ _ (show (36 : Nat) ≠ 32 by decide), mA_k _ _ _ _ (show (37 : Nat) ≠ 32 by decide)]; exact a8 j hj
theorem sm_grant {s p : MS} {i : Nat} {v : Int32} (h : SM s p) : SM (uA (uA s 32 i 1) 33 i v) (uA (uA p 32 i 1) 33 i v) := by
  obtain ⟨a1, a2, a3, a4, a5, a6, a7, a8⟩ := h
  have x : ∀ (s : MS) y j, y ≠ 32 → y ≠ 33 → mA (uA (uA s 32 i 1) 33 i v) y j = mA s y j := fun s y j h1 h2 => by rw [mA_k _ _ _ _ h2, mA_k _ _ _ _ h1]
  refine ⟨a1, a2, a3, a4, fun k hk => ?_, fun l hl => ?_, fun l hl q => ?_, fun j hj => ?_⟩
  · rw [x s 27 k (by decide) (by decide), x s 28 k (by decide) (by decide), x s 29 k (by decide) (by decide), x s 30 k (by decide) (by decide), x s 31 k (by decide) (by decide), x p 27 k (by decide) (by decide), x p 28 k (by decide) (by decide), x p 29 k (by decide) (by decide), x p 30 k (by decide) (by decide), x p 31 k (by decide) (by decide)]; exact a5 k hk
  · rw [mA_k (k' := 32) (uA s 32 i 1) _ _ _ (by decide), mA_k (k' := 32) (uA p 32 i 1) _ _ _ (by decide), mA_uA, mA_uA]; split
    · rfl
    · exact a6 l hl
  · rw [mA_k _ _ _ _ (by decide)] at q
    by_cases e : l = i
    · subst e; rw [mA_h, mA_h]
    · rw [mA_i _ _ _ _ e, mA_i _ _ _ _ e, mA_i _ _ _ _ e, mA_i _ _ _ _ e]
      rw [mA_i _ _ _ _ e] at q
      exact a7 l hl q
  · rw [x s 34 j (by decide) (by decide), x s 35 j (by decide) (by decide), x s 36 j (by decide) (by decide), x s 37 j (by decide) (by decide), x p 34 j (by decide) (by decide), x p 35 j (by decide) (by decide), x p 36 j (by decide) (by decide), x p 37 j (by decide) (by decide)]; exact a8 j hj
theorem sm_uF {s p : MS} {f : Nat} {v : Int32} (h : SM s p) (hf : f ≠ 47) : SM (uF s f v) (uF p f v) := by
  obtain ⟨a1, a2, a3, a4, a5, a6, a7, a8⟩ := h
  have c : ∀ k, mF s k = mF p k → mF (uF s f v) k = mF (uF p f v) k := fun k q => by
    rw [mF_uF, mF_uF]; split
    · rfl
    · exact q
  have en : nE (uF p f v) = nE p := nE_f (mF_n _ _ (fun q => hf q.symm))
  exact ⟨c _ a1, c _ a2, c _ a3, c _ a4, a5, a6, a7, fun i hi => a8 i (by rw [en] at hi; exact hi)⟩
theorem sm_put {s p : MS} {k : Nat} {v l : Int32} (h : SM s p) (hk : k < 64) (hn : nE p < 100000) : SM (pPut s k v l) (pPut p k v l) := by
  have r40 : mF s 40 = mF p 40 := h.1
  have h1 : SM (uF s 40 (mF s 40 + 1)) (uF p 40 (mF p 40 + 1)) := by rw [r40]; exact sm_uF h (by decide)
  have v27 : mA (uF s 40 (mF s 40 + 1)) 27 k = mA (uF p 40 (mF p 40 + 1)) 27 k := (h.2.2.2.2.1 k hk).1
  have f40 : mF (uF s 40 (mF s 40 + 1)) 40 = mF (uF p 40 (mF p 40 + 1)) 40 := by rw [mF_h, mF_h, r40]
  have h2 : SM (pCa (uF s 40 (mF s 40 + 1)) k) (pCa (uF p 40 (mF p 40 + 1)) k) := by
    unfold pCa
    rw [v27]
    split
    · rw [f40]; exact sm_uA h1 (by decide) (by decide)
    · exact h1
  have v2 : mA (pCa (uF s 40 (mF s 40 + 1)) k) 27 k = mA (pCa (uF p 40 (mF p 40 + 1)) k) 27 k := (h2.2.2.2.2.1 k hk).1
  have g40 : mF (pCa (uF s 40 (mF s 40 + 1)) k) 40 = mF (pCa (uF p 40 (mF p 40 + 1)) k) 40 := h2.1
  have h3 : SM (pPu (pCa (uF s 40 (mF s 40 + 1)) k) k v l) (pPu (pCa (uF p 40 (mF p 40 + 1)) k) k v l) := by
    unfold pPu
    rw [v2, g40]
    exact sm_uA (sm_uA (sm_uA (sm_uA h2 (by decide) (by decide)) (by decide) (by decide)) (by decide) (by decide)) (by decide) (by decide)
  refine sm_ev h3 ?_
  have : nE (pPu (pCa (uF p 40 (mF p 40 + 1)) k) k v l) = nE p := nE_f (by rw [pu_f, ca_f, mF_n _ _ (by decide)])
  omega
theorem sm_gone {s p : MS} {k c : Nat} (h : SM s p) (hn : nE p < 100000) : SM (pGone (pRv c s) k) (pGone (pRv c p) k) := by
  have r40 : mF s 40 = mF p 40 := h.1
  have h1 : SM (pRv c s) (pRv c p) := by
    unfold pRv; split
    · rw [r40]; exact sm_uF h (by decide)
    · exact h
  have h2 : SM (pGo (pRv c s) k) (pGo (pRv c p) k) := sm_uA (sm_uA (sm_uA (sm_uA (sm_uA h1 (by decide) (by decide)) (by decide) (by decide)) (by decide) (by decide)) (by decide) (by decide)) (by decide) (by decide)
  refine sm_ev h2 ?_
  have : nE (pGo (pRv c p) k) = nE p := nE_f (go_f.trans (rv_f (by decide)))
  omega
theorem sm_rem {l : Int32} : ∀ (d k c : Nat) (s p : MS), SM s p → k + d ≤ 64 → nE p + d < 5000 → (pRem l d k c s).2 = (pRem l d k c p).2 ∧ SM (pRem l d k c s).1 (pRem l d k c p).1
  | 0, _, _, _, _, h, _, _ => ⟨rfl, h⟩
  | d + 1, k, c, s, p, h, hk, hn => by
    obtain ⟨b1, _, _, _, b5⟩ := h.2.2.2.2.1 k (by omega)
    unfold pRem
    rw [b1, b5]
    split
    · exact sm_rem d (k + 1) c s p h (by omega) (by omega)
    · refine sm_rem d (k + 1) (c + 1) _ _ (sm_gone h (by omega)) (by omega) ?_
      have := (wf_gone (s := p) (k := k) (c := c) (by omega)).2
      omega
theorem rem_32 {l : Int32} : ∀ (d k c : Nat) (s : MS) (j : Nat), mA (pRem l d k c s).1 32 j = mA s 32 j
  | 0, _, _, _, _ => rfl
  | d + 1, k, c, s, j => by
    unfold pRem
    split
    · exact rem_32 d (k + 1) c s j
    · rw [rem_32 d (k + 1) (c + 1) _ j]
      show mA (pEv _ _ _ _) 32 j = _
      rw [ev_x (Or.inl (by decide)), go_x (by omega), rv_x]
theorem sm_tk : ∀ (d l : Nat) (s p : MS), SM s p → WFe p → (∀ j, mA p 32 j = 0 ∨ mA p 32 j = 1) → l + d = 9 → nE p + 64 * d < 4900 → SM (pTk d l s) (pTk d l p)
  | 0, _, _, _, h, _, _, _, _ => h
  | d + 1, l, s, p, h, w, b, hl, hn => by
    have e32 : mA s 32 l = mA p 32 l := h.2.2.2.2.2.1 l (by omega)
    have e41 : mF s 41 = mF p 41 := h.2.1
    unfold pTk
    rcases b l with z | o
    · rw [if_pos (Or.inl z), if_pos (Or.inl (e32.trans z))]
      exact sm_tk d (l + 1) s p h w b (by omega) (by omega)
    · have e33 : mA s 33 l = mA p 33 l := h.2.2.2.2.2.2.1 l (by omega) o
      rw [e32, e33, e41]
      split
      · exact sm_tk d (l + 1) s p h w b (by omega) (by omega)
      · have rw1 := rem_wf (l := Int32.ofNat l) 64 0 0 (uA p 32 l 0) (wf_f (s := p) rfl w) (show nE p + 64 < 5000 by omega)
        have en : nE (uA p 32 l 0) = nE p := nE_f rfl
        refine sm_tk d (l + 1) _ _ (sm_rem 64 0 0 _ _ (sm_u0 h) (by omega) (show nE p + 64 < 5000 by omega)).2 rw1.1 (fun j => ?_) (by omega) (by omega)
        rw [rem_32, mA_uA]; split
        · exact Or.inl rfl
        · exact b j
theorem pd0 {e : Nat → Int32} {p : MS} (z : e 1 = 0) : pDone e p = (p, 0) := by
  unfold pDone; rw [z]; rfl
theorem pd1 {e : Nat → Int32} {p : MS} (z : e 1 = 1) : pDone e p = (if e 4 ≠ 0 ∧ mA p 32 (pN (e 4)) = 0 then (p, -1) else (pPut p (pN (e 2)) (e 3) (e 4), mF p 40 + 1)) := by
  unfold pDone; rw [z, if_pos rfl]
theorem pd2 {e : Nat → Int32} {p : MS} (z : e 1 = 2) : pDone e p = ((pRem (-1) (pN (e 3) + 1 - pN (e 2)) (pN (e 2)) 0 p).1, Int32.ofNat (pRem (-1) (pN (e 3) + 1 - pN (e 2)) (pN (e 2)) 0 p).2) := by
  unfold pDone; rw [z, if_neg (by decide), if_pos rfl]
theorem pd3 {e : Nat → Int32} {p : MS} (z : e 1 = 3) : pDone e p = (if pCmp (pSays p (pN (e 2)) (e 3)) (e 4) (e 5) = true then (pPut p (pN (e 6)) (e 7) 0, 1) else ((pRem (-1) 1 (pN (e 6)) 0 p).1, 0)) := by
  unfold pDone; rw [z, if_neg (by decide), if_neg (by decide), if_pos rfl]
theorem pd4 {e : Nat → Int32} {p : MS} (z : e 1 = 4) : pDone e p = (if mA p 32 (pN (e 2)) = 0 then (uA (uA p 32 (pN (e 2)) 1) 33 (pN (e 2)) (mF p 41 + e 3), 1) else (p, 0)) := by
  unfold pDone; rw [z, if_neg (by decide), if_neg (by decide), if_neg (by decide), if_pos rfl]
theorem pd5 {e : Nat → Int32} {p : MS} (z : e 1 = 5) : pDone e p = (if mA p 32 (pN (e 2)) = 0 then (p, -1) else ((pRem (e 2) 64 0 0 (uA p 32 (pN (e 2)) 0)).1, Int32.ofNat (pRem (e 2) 64 0 0 (uA p 32 (pN (e 2)) 0)).2)) := by
  unfold pDone; rw [z, if_neg (by decide), if_neg (by decide), if_neg (by decide), if_neg (by decide), if_pos rfl]
theorem pd6 {e : Nat → Int32} {p : MS} (z : e 1 = 6) : pDone e p = (if mA p 32 (pN (e 2)) = 0 then (p, 0) else (uA p 33 (pN (e 2)) (mF p 41 + e 3), 1)) := by
  unfold pDone; rw [z, if_neg (by decide), if_neg (by decide), if_neg (by decide), if_neg (by decide), if_neg (by decide), if_pos rfl]
theorem pd7 {e : Nat → Int32} {p : MS} (z : e 1 = 7) : pDone e p = (pTk 8 1 (uF p 41 (mF p 41 + 1)), mF p 41 + 1) := by
  unfold pDone; rw [z, if_neg (by decide), if_neg (by decide), if_neg (by decide), if_neg (by decide), if_neg (by decide), if_neg (by decide), if_pos rfl]
theorem pd8 {e : Nat → Int32} {p : MS} (z : e 1 = 8) : pDone e p = (if e 2 ≤ mF p 42 ∨ mF p 40 < e 2 then (p, 0) else (uF p 42 (e 2), 1)) := by
  unfold pDone; rw [z, if_neg (by decide), if_neg (by decide), if_neg (by decide), if_neg (by decide), if_neg (by decide), if_neg (by decide), if_neg (by decide), if_pos rfl]
theorem pi_wf {p : MS} {N : Nat} (h : PI p N) : WFe p := by obtain ⟨⟨R, C, _, _, _, _, a⟩, _⟩ := h; exact a.1
theorem pi_n {p : MS} {N : Nat} (h : PI p N) : nE p ≤ 2 * N := by have := h.2.1; omega
theorem sm_done {s p : MS} {e : Nat → Int32} {N : Nat} (h : SM s p) (pi : PI p N) (hN : N < 1000) (he : legalE e) : (pDone e s).2 = (pDone e p).2 ∧ SM (pDone e s).1 (pDone e p).1 := by
  have hn := pi_n pi
  have w := pi_wf pi
  obtain ⟨a1, a2, a3, a4, a5, a6, a7, a8⟩ := id h
  rcases he.2 with z | ⟨z, k1, k2, k3⟩ | ⟨z, k1, k2⟩ | ⟨z, k1, k2, k3, k4, k5, k6⟩ | ⟨z, k1, k2⟩ | z | z
  · rw [pd0 z, pd0 z]; exact ⟨rfl, h⟩
  · obtain ⟨b1, b2⟩ := ls_n k2 k3
    rw [pd1 z, pd1 z, a6 _ b1, a1]
    split
    · exact ⟨rfl, h⟩
    · exact ⟨rfl, sm_put h (isK_n k1).1 (by omega)⟩
  · rw [pd2 z, pd2 z]
    have := sm_rem (l := -1) (pN (e 3) + 1 - pN (e 2)) (pN (e 2)) 0 s p h (by have := (isK_n k1).1; have := (isK_n k2).1; omega) (by have := (isK_n k2).1; omega)
    exact ⟨by rw [this.1], this.2⟩
  · obtain ⟨v1, v2, v3, v4, v5⟩ := a5 _ (isK_n k1).1
    have sy : pSays s (pN (e 2)) (e 3) = pSays p (pN (e 2)) (e 3) := by unfold pSays; rw [v1, v2, v3, v4]
    rw [pd3 z, pd3 z, sy]
    split
    · exact ⟨rfl, sm_put h (isK_n k2).1 (by omega)⟩
    · exact ⟨rfl, (sm_rem (l := -1) 1 (pN (e 6)) 0 s p h (by have := (isK_n k2).1; omega) (by omega)).2⟩
  · have k0 : 0 ≤ e 2 := Int32.le_trans (by decide) k1
    obtain ⟨b1, b2⟩ := ls_n k0 k2
    rcases z with z | z | z
    · rw [pd4 z, pd4 z, a6 _ b1, a2]
      split
      · exact ⟨rfl, sm_grant h⟩
      · exact ⟨rfl, h⟩
    · rw [pd5 z, pd5 z, a6 _ b1]
      split
      · exact ⟨rfl, h⟩
      · have := sm_rem (l := e 2) 64 0 0 _ _ (sm_u0 (i := pN (e 2)) h) (by omega) (show nE p + 64 < 5000 by omega)
        exact ⟨by rw [this.1], this.2⟩
    · rw [pd6 z, pd6 z, a6 _ b1, a2]
      split
      · exact ⟨rfl, h⟩
      · exact ⟨rfl, sm_uA h (by decide) (by decide)⟩
  · rw [pd7 z, pd7 z, a2]
    have f47 : mF (uF p 41 (mF p 41 + 1)) 47 = mF p 47 := mF_n _ _ (by decide)
    exact ⟨rfl, sm_tk 8 1 _ _ (sm_uF h (by decide)) (wf_f f47 w) pi.2.2.2 rfl (by rw [nE_f f47]; omega)⟩
  · rw [pd8 z, pd8 z, a1, a3]
    split
    · exact ⟨rfl, h⟩
    · exact ⟨rfl, sm_uF h (by decide)⟩
