/-! ===== Store.run ===== -/
theorem ps_self (q : Nat) (h : Hp) : ps q h (rdS q h) = h := by
  have e1 : (fun g a => if a = q ∧ 448 ≤ g ∧ g < 512 then tF (rdS q h) (g - 448) else hI h g a) = hI h := by
    funext g a
    by_cases z : a = q ∧ 448 ≤ g ∧ g < 512
    · rw [if_pos z]
      show hI h (gq 7 (g - 448)) q = hI h g a
      rw [z.1, show gq 7 (g - 448) = g by unfold gq; omega]
    · rw [if_neg z]
  have e2 : (fun g a => if a = q ∧ 448 ≤ g ∧ g < 512 then tG (rdS q h) (g - 448) else hL h g a) = hL h := by
    funext g a
    by_cases z : a = q ∧ 448 ≤ g ∧ g < 512
    · rw [if_pos z]
      show hL h (gq 7 (g - 448)) q = hL h g a
      rw [z.1, show gq 7 (g - 448) = g by unfold gq; omega]
    · rw [if_neg z]
  have e3 : (fun a i => if q < a ∧ a ≤ q + 8 then tA (rdS q h) (a - q) i else aI h a i) = aI h := by
    funext a i
    by_cases z : q < a ∧ a ≤ q + 8
    · rw [if_pos z]
      show aI h (q + (a - q)) i = aI h a i
      rw [show q + (a - q) = a by omega]
    · rw [if_neg z]
  have e4 : (fun a i => if q < a ∧ a ≤ q + 8 then tK (rdS q h) (a - q) i else aL h a i) = aL h := by
    funext a i
    by_cases z : q < a ∧ a ≤ q + 8
    · rw [if_pos z]
      show aL h (q + (a - q)) i = aL h a i
      rw [show q + (a - q) = a by omega]
    · rw [if_neg z]
  unfold ps
  rw [e1, e2, e3, e4]; rfl
theorem rd_ps (q : Nat) (h : Hp) (t : SS) : (∀ k i, 1 ≤ k → k ≤ 8 → tA (rdS q (ps q h t)) k i = tA t k i) ∧ (∀ f, f < 64 → tF (rdS q (ps q h t)) f = tF t f) ∧ (∀ i, tK (rdS q (ps q h t)) 1 i = tK t 1 i) ∧ ∀ f, f < 64 → tG (rdS q (ps q h t)) f = tG t f := by
  refine ⟨fun k i h1 h2 => ?_, fun f hf => ?_, fun i => ?_, fun f hf => ?_⟩
  · show aI (ps q h t) (q + k) i = _; rw [ps_rA ⟨h1, h2⟩]
  · exact ps_rF hf t
  · show aL (ps q h t) (q + 1) i = _; rw [ps_rK (by decide)]
  · exact ps_rG hf t
theorem sc_rd {q : Nat} {h : Hp} {t : SS} {p : MS} (c : SC t p) : SC (rdS q (ps q h t)) p := by
  obtain ⟨r1, r2, r3, r4⟩ := rd_ps q h t
  unfold SC at *
  rw [r2 0 (by decide), r2 1 (by decide), r2 4 (by decide), r2 12 (by decide), r2 3 (by decide), r4 10 (by decide)]
  obtain ⟨c0, c1, c2, c3, c4, c5, c6, c7, U, c8, c9, c10⟩ := c
  refine ⟨c0, c1, c2, c3, fun k hk => ?_, c5, fun l h1 h2 h3 => ?_, ⟨c7.1, fun i hi => by rw [r3]; exact c7.2 i hi⟩, U, c8, c9, fun k hk => ?_⟩
  · rw [r1 2 k (by decide) (by decide), r1 3 k (by decide) (by decide), r1 4 k (by decide) (by decide), r1 5 k (by decide) (by decide), r1 6 k (by decide) (by decide)]; exact c4 k hk
  · rw [r1 8 l (by decide) (by decide)]; exact c6 l h1 h2 h3
  · rw [r1 7 k (by decide) (by decide)]; exact c10 k hk
theorem sw_ps {q : Nat} {h : Hp} {t : SS} (w : SW q h) : SW q (ps q h t) := w
theorem c7_says {t : SS} {p : MS} {k : Nat} {w : Int32} (h : SC t p) (hk : k < 64) (hw : 0 ≤ w) (hw' : w ≤ 3) : gX7_keyField (Int32.ofNat k) w t = some (pSays p k w, t) := by
  obtain ⟨v1, v2, v3, v4, v5⟩ := h.2.2.2.2.1 k hk
  have e := io_of hw
  have l : w ≤ Int32.ofNat 3 := hw'
  rw [e, io_le (Int32.toNatClampNeg_lt w) (by decide)] at l
  unfold gX7_keyField pSays
  rw [k7_is hk, bd7_some, if_neg (by decide)]
  have : w.toNatClampNeg = 0 ∨ w.toNatClampNeg = 1 ∨ w.toNatClampNeg = 2 ∨ w.toNatClampNeg = 3 := by omega
  rcases this with z | z | z | z <;> rw [z] at e <;> rw [e]
  · rw [if_pos (by decide), if_pos (by decide), l7_2 hk, bd_some, v1]
  · rw [if_neg (by decide), if_pos (by decide), if_neg (by decide), if_pos (by decide), l7_3 hk, bd_some, v2]
  · rw [if_neg (by decide), if_neg (by decide), if_pos (by decide), if_neg (by decide), if_neg (by decide), if_pos (by decide), l7_4 hk, bd_some, v3]
  · rw [if_neg (by decide), if_neg (by decide), if_neg (by decide), if_pos (by decide), if_neg (by decide), if_neg (by decide), if_neg (by decide), l7_5 hk, bd_some, v4]
theorem c7_cmp {t : SS} {v x y : Int32} : gX7_compares v x y t = some (if pCmp v x y = true then 1 else 0, t) := by
  unfold gX7_compares pCmp
  by_cases z : x = 0
  · rw [if_pos z, if_pos z]
    by_cases q : v = y
    · rw [if_pos q, if_pos (decide_eq_true q)]
    · rw [if_neg q, if_neg (by simp [q])]
  · rw [if_neg z, if_neg z]
    by_cases z1 : x = 1
    · rw [if_pos z1, if_pos z1]
      by_cases q : y ≤ v
      · rw [if_pos q, if_neg (by rw [decide_eq_true_eq]; exact Int32.not_lt.mpr q)]
      · rw [if_neg q, if_pos (decide_eq_true (Int32.not_le.mp q))]
    · rw [if_neg z1, if_neg z1]
      by_cases q : v ≤ y
      · rw [if_pos q, if_neg (by rw [decide_eq_true_eq]; exact Int32.not_lt.mpr q)]
      · rw [if_neg q, if_pos (decide_eq_true (Int32.not_le.mp q))]
theorem c7_pwl {t : SS} {p : MS} {N k : Nat} {v l : Int32} (h : SC t p) (pi : PI p N) (hN : N ≤ 190) (hk : k < 64) (l0 : 0 ≤ l) (l8 : l ≤ 8) : ∃ t', gX7_putWithLease (Int32.ofNat k) v l t = some ((if l ≠ 0 ∧ mA p 32 (pN l) = 0 then -1 else mF p 40 + 1), t') ∧ SC t' (if l ≠ 0 ∧ mA p 32 (pN l) = 0 then p else pPut p k v l) := by
  obtain ⟨b1, b2⟩ := ls_n l0 l8
  obtain ⟨t1, g1, g2⟩ := c7_put (v := v) (l := l) h pi hN hk
  have r40 : tF t1 0 = mF p 40 + 1 := by rw [g2.2.1]; unfold pPut; rw [ev_f (by decide), pu_f, ca_f, mF_h]
  unfold gX7_putWithLease gX7_putWithLease_14 rd7
  by_cases z : l = 0
  · rw [if_pos z, if_neg (fun q => q.1 z), if_neg (fun q => q.1 z), g1, bd7_some, bd_some, r40]; exact ⟨t1, rfl, g2⟩
  · have p1 : 1 ≤ pN l := by
      by_cases y : pN l = 0
      · exact absurd (by rw [b2, y]; rfl) z
      · omega
    have hs := c7_has (l := pN l) (sc_iff.mp h) pi.2.2.2 p1 (by omega)
    rw [← b2] at hs
    rw [if_neg z, hs, bd7_some]
    by_cases y : mA p 32 (pN l) = 0
    · rw [if_pos y, if_pos rfl, if_pos ⟨z, y⟩, if_pos ⟨z, y⟩]; exact ⟨t, rfl, h⟩
    · rw [if_neg y, if_neg (by decide), if_neg (fun q => y q.2), if_neg (fun q => y q.2), g1, bd7_some, bd_some, r40]; exact ⟨t1, rfl, g2⟩
section
variable {q c N : Nat} {h : Hp} {p : MS} {e : Nat → Int32}
theorem c7_cap (w : SW q h) (s : SC (rdS q h) p) (pi : PI p N) (hN : N ≤ 190) (kc : hK h c = some (0, 0)) (ec : ∀ j, j < 7 → hI h (gq 0 j) c = e (j + 1)) (hc : c < q ∨ q + 8 < c) (k1 : isK (e 2)) (k2 : isK (e 6)) (k3 : 0 ≤ e 3) (k4 : e 3 ≤ 3) : ∃ t', fX7_compareAndPut q c h = some ((if pCmp (pSays p (pN (e 2)) (e 3)) (e 4) (e 5) = true then 1 else 0), ps q h t') ∧ SC t' (if pCmp (pSays p (pN (e 2)) (e 3)) (e 4) (e 5) = true then pPut p (pN (e 6)) (e 7) 0 else (pRem (-1) 1 (pN (e 6)) 0 p).1) := by
  obtain ⟨a1, a2⟩ := isK_n k1
  obtain ⟨b1, b2⟩ := isK_n k2
  have g : ∀ (t : SS) (j : Nat), j < 7 → gI (ps q h t) 0 j c = some (e (j + 1)) := fun t j hj => by
    have k0 : hK (ps q h t) c = some (0, 0) := kc
    rw [gI_k k0, (sa_ps (h := h) (s := t) hc).2.1, ec j hj]
  have kf : fX7_keyField q (e 2) (e 3) h = some (pSays p (pN (e 2)) (e 3), h) := by
    have := eX7_keyField w (e 2) (e 3) (rdS q h)
    rw [ps_self] at this
    rw [this]
    have cs := c7_says (w := e 3) s a1 k3 k4
    rw [← a2] at cs
    rw [cs, lf7_some, ps_self]
  have cm : fX7_compares (pSays p (pN (e 2)) (e 3)) (e 4) (e 5) h = some (if pCmp (pSays p (pN (e 2)) (e 3)) (e 4) (e 5) = true then 1 else 0, h) := by
    have := eX7_compares w (pSays p (pN (e 2)) (e 3)) (e 4) (e 5) (rdS q h)
    rw [ps_self] at this
    rw [this, c7_cmp, lf7_some, ps_self]
  have g0 : ∀ j, j < 7 → gI h 0 j c = some (e (j + 1)) := fun j hj => by rw [gI_k kc, ec j hj]
  unfold fX7_compareAndPut
  rw [g0 1 (by decide), bd_some, g0 2 (by decide), bd_some, if_pos w.1, kf, bd2_some, g0 3 (by decide), bd_some, g0 4 (by decide), bd_some, cm, bd2_some]
  by_cases z : pCmp (pSays p (pN (e 2)) (e 3)) (e 4) (e 5) = true
  · rw [if_pos z, if_neg (by decide), if_pos z, g0 5 (by decide), bd_some, g0 6 (by decide), bd_some, if_pos w.1]
    obtain ⟨t1, f1, f2⟩ := c7_put (v := e 7) (l := 0) s pi hN b1
    rw [← b2] at f1
    have := eX7_put w (e 6) (e 7) 0 (rdS q h)
    rw [ps_self, f1, lf7_some] at this
    rw [this, bd2_some]
    exact ⟨t1, rfl, f2⟩
  · rw [if_neg z, if_pos rfl, if_neg z, g0 5 (by decide), bd_some, if_pos w.1]
    have rm := eX7_remove w (e 6) (rdS q h)
    rw [ps_self] at rm
    by_cases y : mA p 27 (pN (e 6)) = 0
    · have cn := c7_no (sc_iff.mp s) b1 y
      rw [← b2] at cn
      rw [cn, lf7_some, ps_self] at rm
      have en := eX7_endRevision w 0 (rdS q h)
      rw [ps_self, c7_end0, lf7_some] at en
      rw [rm, bd2_some, if_pos w.1, en, bd2_some]
      have ep : (pRem (-1) 1 (pN (e 6)) 0 p).1 = p := by unfold pRem; rw [if_pos (Or.inl y)]; rfl
      rw [ep]; exact ⟨rdS q h, rfl, s⟩
    · obtain ⟨t1, f1, f2, f3⟩ := c7_rm (c := 0) (sc_iff.mp s) pi hN b1 y (by rw [if_pos rfl]) (pi_cr pi (by omega))
      rw [← b2] at f1
      rw [f1, lf7_some] at rm
      have en := eX7_endRevision (h := h) w 1 t1
      rw [c7_end1 (by decide), lf7_some] at en
      rw [rm, bd2_some, if_pos (show hK (ps q h t1) q = some (7, 0) from w.1), en, bd2_some]
      have ep : (pRem (-1) 1 (pN (e 6)) 0 p).1 = pGone (pRv 0 p) (pN (e 6)) := by unfold pRem; rw [if_neg (fun u => u.elim y (fun v => absurd v.1 (by decide)))]; rfl
      rw [ep]
      refine ⟨_, rfl, ?_⟩
      rw [sc_iff, f3, f2.2.1]; exact scr_r f2
theorem c7_run (w : SW q h) (s : SC (rdS q h) p) (pi : PI p N) (hN : N ≤ 190) (kc : hK h c = some (0, 0)) (ec : ∀ j, j < 7 → hI h (gq 0 j) c = e (j + 1)) (hc : c < q ∨ q + 8 < c) (he : legalE e) : ∃ t', fX7_run q c h = some ((pDone e p).2, ps q h t') ∧ SC t' (pDone e p).1 := by
  have g0 : ∀ j, j < 7 → gI h 0 j c = some (e (j + 1)) := fun j hj => by rw [gI_k kc, ec j hj]
  unfold fX7_run
  rw [g0 0 (by decide), bd_some]
  rcases he.2 with z | ⟨z, k1, k2, k3⟩ | ⟨z, k1, k2⟩ | ⟨z, k1, k2, k3, k4, k5, k6⟩ | ⟨z, k1, k2⟩ | z | z
  · rw [pd0 z, z, if_neg (by decide), if_neg (by decide), if_neg (by decide), if_neg (by decide), if_neg (by decide), if_neg (by decide), if_neg (by decide), if_neg (by decide)]
    exact ⟨rdS q h, by rw [ps_self], s⟩
  · obtain ⟨a1, a2⟩ := isK_n k1
    obtain ⟨t1, f1, f2⟩ := c7_pwl (v := e 3) s pi hN a1 k2 k3
    rw [← a2] at f1
    have er := eX7_putWithLease w (e 2) (e 3) (e 4) (rdS q h)
    rw [ps_self, f1, lf7_some] at er
    rw [pd1 z, z, if_pos rfl, g0 1 (by decide), bd_some, g0 2 (by decide), bd_some, g0 3 (by decide), bd_some, if_pos w.1, er, bd2_some]
    refine ⟨t1, ?_, ?_⟩
    · split <;> rfl
    · by_cases y : e 4 ≠ 0 ∧ mA p 32 (pN (e 4)) = 0
      · rw [if_pos y] at f2 ⊢; exact f2
      · rw [if_neg y] at f2 ⊢; exact f2
  · obtain ⟨a1, a2⟩ := isK_n k1
    obtain ⟨b1, b2⟩ := isK_n k2
    obtain ⟨t1, f1, f2⟩ := c7_range (r := mF p 40) b1 hN (pN (e 3) + 1 - pN (e 2)) (pN (e 2)) LF 0 (rdS q h) p (by omega) (LF_lt (by omega)) (by omega) (sc_iff.mp s) pi (by rw [if_pos rfl]) (pi_cr pi (by omega)) (by omega)
    have rg : gX7_removeRange (e 2) (e 3) (rdS q h) = some (Int32.ofNat (pRem (-1) (pN (e 3) + 1 - pN (e 2)) (pN (e 2)) 0 p).2, t1) := by
      unfold gX7_removeRange
      rw [show mx (e 2) (0 : Int32) = e 2 by unfold mx; rw [if_neg (Int32.not_lt.mpr k1.1)], show (0 : Int32) = Int32.ofNat 0 from rfl]
      rw [← a2, ← b2] at f1
      exact f1
    have er := eX7_removeRange w (e 2) (e 3) (rdS q h)
    rw [ps_self, rg, lf7_some] at er
    rw [pd2 z, z, if_neg (by decide), if_pos rfl, g0 1 (by decide), bd_some, g0 2 (by decide), bd_some, if_pos w.1, er, bd2_some]
    exact ⟨t1, rfl, f2⟩
  · obtain ⟨t1, f1, f2⟩ := c7_cap (e := e) w s pi hN kc ec hc k1 k2 k3 k4
    rw [pd3 z, z, if_neg (by decide), if_neg (by decide), if_pos rfl, if_pos w.1, f1, bd2_some]
    refine ⟨t1, ?_, ?_⟩
    · split <;> rfl
    · by_cases y : pCmp (pSays p (pN (e 2)) (e 3)) (e 4) (e 5) = true
      · rw [if_pos y] at f2 ⊢; exact f2
      · rw [if_neg y] at f2 ⊢; exact f2
  · have k0 : 0 ≤ e 2 := Int32.le_trans (by decide) k1
    obtain ⟨a1, a2⟩ := ls_n k0 k2
    have p1 : 1 ≤ pN (e 2) := by
      rw [a2] at k1
      rw [show (1 : Int32) = Int32.ofNat 1 from rfl, io_le (by omega) (by omega)] at k1
      exact k1
    rcases z with z | z | z
    · obtain ⟨t1, f1, f2⟩ := c7_grant (e3 := e 3) s pi.2.2.2 p1 (by omega)
      rw [← a2] at f1
      have er := eX7_grant w (e 2) (e 3) (rdS q h)
      rw [ps_self, f1, lf7_some] at er
      rw [pd4 z, z, if_neg (by decide), if_neg (by decide), if_neg (by decide), if_pos rfl, g0 1 (by decide), bd_some, g0 2 (by decide), bd_some, if_pos w.1, er, bd2_some]
      refine ⟨t1, ?_, ?_⟩
      · split <;> rfl
      · by_cases y : mA p 32 (pN (e 2)) = 0
        · rw [if_pos y] at f2 ⊢; exact f2
        · rw [if_neg y] at f2 ⊢; exact f2
    · obtain ⟨t1, f1, f2⟩ := c7_revoke s pi hN p1 (by omega)
      rw [← a2] at f1 f2
      have er := eX7_revoke w (e 2) (rdS q h)
      rw [ps_self, f1, lf7_some] at er
      rw [pd5 z, z, if_neg (by decide), if_neg (by decide), if_neg (by decide), if_neg (by decide), if_pos rfl, g0 1 (by decide), bd_some, if_pos w.1, er, bd2_some]
      refine ⟨t1, ?_, ?_⟩
      · split <;> rfl
      · by_cases y : mA p 32 (pN (e 2)) = 0
        · rw [if_pos y] at f2 ⊢; exact f2
        · rw [if_neg y] at f2 ⊢; exact f2
    · obtain ⟨t1, f1, f2⟩ := c7_renew (e3 := e 3) s pi.2.2.2 p1 (by omega)
      rw [← a2] at f1
      have er := eX7_renew w (e 2) (e 3) (rdS q h)
      rw [ps_self, f1, lf7_some] at er
      rw [pd6 z, z, if_neg (by decide), if_neg (by decide), if_neg (by decide), if_neg (by decide), if_neg (by decide), if_pos rfl, g0 1 (by decide), bd_some, g0 2 (by decide), bd_some, if_pos w.1, er, bd2_some]
      refine ⟨t1, ?_, ?_⟩
      · split <;> rfl
      · by_cases y : mA p 32 (pN (e 2)) = 0
        · rw [if_pos y] at f2 ⊢; exact f2
        · rw [if_neg y] at f2 ⊢; exact f2
  · have sct : SC (vF (rdS q h) 4 (mF p 41 + 1)) (uF p 41 (mF p 41 + 1)) := by
      obtain ⟨c0, c1, c2, c3, c4, c5, c6, c7, U, c8, c9, c10⟩ := s
      have en : nE (uF p 41 (mF p 41 + 1)) = nE p := nE_f (mF_n _ _ (by decide))
      have fv : fV (uF p 41 (mF p 41 + 1)) = fV p := by
        have l := fV_le p
        exact fv_uq (by rw [en]; exact l) (fun i hi => by rw [mF_n _ _ (by decide)]; exact fv_lo hi) (fun u => by rw [mF_n _ _ (by decide)]; exact fv_hi (by omega))
      unfold SC
      rw [en, fv]
      refine ⟨c0, ?_, ?_, ?_, c4, ?_, c6, ⟨?_, fun i hi => ?_⟩, U, c8, c9, fun k hk => ?_⟩
      · rw [tF_vF, if_neg (by decide), mF_n _ _ (by decide)]; exact c1
      · rw [tF_vF, if_neg (by decide), mF_n _ _ (by decide)]; exact c2
      · rw [tF_vF, if_pos rfl, mF_h]
      · obtain ⟨V, v1, v2, v3⟩ := c5
        exact ⟨V, v1, by rw [tF_vF, if_neg (by decide)]; exact v2, v3⟩
      · rw [tF_vF, if_neg (by decide)]; exact c7.1
      · rw [coded_same (p := p) (p' := uF p 41 (mF p 41 + 1)) (fun _ _ _ => rfl)]; exact c7.2 i hi
      · rw [lst_same (p := p) (p' := uF p 41 (mF p 41 + 1)) (fV p) (fun _ _ _ _ _ => rfl)]; exact c10 k hk
    have pit : PI (uF p 41 (mF p 41 + 1)) N := pi_same pi (fun _ _ _ _ => rfl) pi.2.2.2 (fun k hk => mF_n _ _ hk)
    obtain ⟨t1, f1, f2⟩ := c7_tk hN 8 1 LF _ _ rfl (by omega) (LF_lt (by decide)) sct pit
    have tk : gX7_tick (rdS q h) = some (mF p 41 + 1, t1) := by
      unfold gX7_tick rd7 wr7
      have t4 : tF (rdS q h) 4 = mF p 41 := s.2.2.2.1
      rw [bd_some, bd_some, t4, show gX7_tick_12 LF (1 : Int32) = gX7_tick_12 LF (Int32.ofNat 1) from congrArg _ rfl, f1, mF_h]
    have er := eX7_tick w (rdS q h)
    rw [ps_self, tk, lf7_some] at er
    rw [pd7 z, z, if_neg (by decide), if_neg (by decide), if_neg (by decide), if_neg (by decide), if_neg (by decide), if_neg (by decide), if_pos rfl, if_pos w.1, er, bd2_some]
    exact ⟨t1, rfl, f2⟩
  · obtain ⟨t1, f1, f2⟩ := c7_compact (a := e 2) s pi hN
    have er := eX7_compact w (e 2) (rdS q h)
    rw [ps_self, f1, lf7_some] at er
    rw [pd8 z, z, if_neg (by decide), if_neg (by decide), if_neg (by decide), if_neg (by decide), if_neg (by decide), if_neg (by decide), if_neg (by decide), if_pos rfl, g0 1 (by decide), bd_some, if_pos w.1, er, bd2_some]
    refine ⟨t1, ?_, ?_⟩
    · split <;> rfl
    · by_cases y : e 2 ≤ mF p 42 ∨ mF p 40 < e 2
      · rw [if_pos y] at f2 ⊢; exact f2
      · rw [if_neg y] at f2 ⊢; exact f2
end
