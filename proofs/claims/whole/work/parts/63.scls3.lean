def tGo (t : SS) (k : Nat) : SS := vA (vA (vA (vA (vA t 2 k 0) 3 k 0) 4 k 0) 5 k 0) 6 k 0
/-- a key goes: the class's revision r is raised at the command's end only -/
theorem c7_rm {t : SS} {p : MS} {N k c : Nat} {r : Int32} (h : SCr t p r) (pi : PI p N) (hN : N ≤ 190) (hk : k < 64) (h27 : mA p 27 k ≠ 0) (hr : mF p 40 = if c = 0 then r else r + 1) (cr : mF p 42 < r + 1) : ∃ t', gX7_remove (Int32.ofNat k) t = some (1, t') ∧ SCr t' (pGone (pRv c p) k) r ∧ mF (pGone (pRv c p) k) 40 = r + 1 := by
  have hn := pi_n pi
  have fl := fV_le p
  obtain ⟨a0, a1, a2, a3, a4, a5, a6, a7, a8⟩ := id h
  obtain ⟨p1, hp1⟩ : ∃ p1, p1 = pGo (pRv c p) k := ⟨_, rfl⟩
  obtain ⟨t1, ht1⟩ : ∃ t1, t1 = tGo t k := ⟨_, rfl⟩
  have ep : pGone (pRv c p) k = pEv p1 k 0 0 := by rw [hp1]; rfl
  have f40 : mF p1 40 = r + 1 := by
    rw [hp1, go_f]; unfold pRv
    by_cases z : c = 0
    · rw [if_pos z, mF_h, hr, if_pos z]
    · rw [if_neg z, hr, if_neg z]
  have fo : ∀ f, f ≠ 40 → mF p1 f = mF p f := fun f hf => by rw [hp1, go_f, rv_f hf]
  have eo : ∀ x i, 32 ≤ x → mA p1 x i = mA p x i := fun x i hx => by rw [hp1, go_x (by omega), rv_x]
  have n1 : nE p1 = nE p := nE_f (fo 47 (by decide))
  obtain ⟨s1, s2⟩ := scr_ev (t' := t1) (p' := p1) (r' := r) (k := k) (b := 0) (v := 0) h (by omega) n1 (fo 42 (by decide)) (fo 41 (by decide)) (by rw [fo 42 (by decide), f40]; exact cr) (fun x i h1 h2 => eo x i (by omega)) (fun l => eo 32 l (by decide)) (fun l => eo 33 l (by decide)) (fun f _ => by rw [ht1]; rfl) (by rw [ht1]; exact a1) (fun j hj => by
      obtain ⟨b1, b2, b3, b4, b5⟩ := a4 j hj
      rw [ht1, hp1]
      unfold tGo
      simp only [tA_vA]
      by_cases e : j = k
      · subst e
        rw [go_k (by decide), go_k (by decide), go_k (by decide), go_k (by decide), go_k (by decide)]
        simp
      · rw [go_x (by omega), go_x (by omega), go_x (by omega), go_x (by omega), go_x (by omega), rv_x, rv_x, rv_x, rv_x, rv_x]
        simp [e]
        exact ⟨b1, b2, b3, b4, b5⟩) (fun x i hx => by rw [ht1]; unfold tGo; simp only [tA_vA]; rw [if_neg (by omega), if_neg (by omega), if_neg (by omega), if_neg (by omega), if_neg (by omega)]) (fun i => by rw [ht1]; rfl) (fun f => by rw [ht1]; rfl)
  have cd : coded (pEv p1 k 0 0) (nE p) = (-1 : Int64) - (((64 : Int64) * (r + 1).toInt64) + (Int32.ofNat k).toInt64) := by
    obtain ⟨q1, q2, q3, q4⟩ := ev_n (p := p1) (k := k) (b := 0) (v := 0)
    rw [n1] at q1 q2 q3 q4
    unfold coded
    rw [q1, q2, q3, q4, if_pos rfl, f40]
  refine ⟨tEv t1 (nE p - fV p) (coded (pEv p1 k 0 0) (nE p)), ?_, by rw [ep]; exact s1, by rw [ep, ev_f (by decide)]; exact f40⟩
  have add := c7_add (c := coded (pEv p1 k 0 0) (nE p)) s2 (show nE p - fV p < 464 by omega)
  have v2 : tA t 2 k ≠ 0 := by rw [(a4 k hk).1]; exact h27
  unfold gX7_remove rd7
  rw [k7_is hk, bd7_some, if_neg (by decide), l7_2 hk, bd_some, if_neg v2, s7_2 hk, bd_some, s7_3 hk, bd_some, s7_4 hk, bd_some, s7_5 hk, bd_some, s7_6 hk, bd_some, bd_some]
  have r0 : tF (tGo t k) 0 = r := a1
  show bd7 (gX7_addEvent ((-1 : Int64) - (((64 : Int64) * ((tF (tGo t k) 0 + (1 : Int32)).toInt64)) + (Int32.ofNat k).toInt64)) (tGo t k)) _ = _
  rw [r0, ← cd, ← ht1, add, bd7_some]
theorem c7_no {t : SS} {p : MS} {k : Nat} {r : Int32} (h : SCr t p r) (hk : k < 64) (h27 : mA p 27 k = 0) : gX7_remove (Int32.ofNat k) t = some (0, t) := by
  unfold gX7_remove
  rw [k7_is hk, bd7_some, if_neg (by decide), l7_2 hk, bd_some, if_pos (by rw [(h.2.2.2.2.1 k hk).1]; exact h27)]
theorem gone_42 {p : MS} {k c : Nat} : mF (pGone (pRv c p) k) 42 = mF p 42 := by
  show mF (pEv _ _ _ _) 42 = _
  rw [ev_f (by decide), go_f, rv_f (by decide)]
theorem rem_le {l : Int32} : ∀ (d k c : Nat) (p : MS), c ≤ (pRem l d k c p).2 ∧ (pRem l d k c p).2 ≤ c + d
  | 0, _, c, _ => ⟨Nat.le_refl _, Nat.le_refl _⟩
  | d + 1, k, c, p => by
    unfold pRem; split
    · have := rem_le (l := l) d (k + 1) c p; omega
    · have := rem_le (l := l) d (k + 1) (c + 1) (pGone (pRv c p) k); omega
/-- what stands at the command's end -/
theorem c7_fin {t : SS} {p : MS} {c : Nat} {r : Int32} (h : SCr t p r) (hc : c < 1000) (hr : mF p 40 = if c = 0 then r else r + 1) : ∃ t', gX7_endRevision (Int32.ofNat c) t = some ((), t') ∧ SC t' p := by
  by_cases z : c = 0
  · subst z
    rw [if_pos rfl] at hr
    exact ⟨t, c7_end0, by rw [sc_iff, hr]; exact h⟩
  · rw [if_neg z] at hr
    refine ⟨_, c7_end1 (by rw [show (0 : Int32) = Int32.ofNat 0 from rfl, io_lt (by omega) (by omega)]; omega), ?_⟩
    rw [sc_iff, hr, h.2.1]; exact scr_r h
theorem c7_range {b : Nat} {r : Int32} {N : Nat} (hb : b < 64) (hN : N ≤ 190) : ∀ (d k f c : Nat) (t : SS) (p : MS), (k + d = b + 1 ∨ (d = 0 ∧ b < k)) → d < f → k ≤ 64 → SCr t p r → PI p N → mF p 40 = (if c = 0 then r else r + 1) → mF p 42 < r + 1 → c + d < 1000 → ∃ t', gX7_removeRange_9 f (Int32.ofNat b) (Int32.ofNat c) (Int32.ofNat k) t = some (Int32.ofNat (pRem (-1) d k c p).2, t') ∧ SC t' (pRem (-1) d k c p).1 := by
  intro d
  induction d with
  | zero =>
    intro k f c t p h0 hf hk h pi hr cr hc
    obtain ⟨f, rfl⟩ : ∃ g, f = g + 1 := ⟨f - 1, by omega⟩
    obtain ⟨t', e1, e2⟩ := c7_fin h (by omega) hr
    refine ⟨t', ?_, e2⟩
    have e0 : gX7_removeRange_9 (f + 1) (Int32.ofNat b) (Int32.ofNat c) (Int32.ofNat k) t = gX7_removeRange_9_body (gX7_removeRange_9 f) (Int32.ofNat b) (Int32.ofNat c) (Int32.ofNat k) t := rfl
    rw [e0]
    unfold gX7_removeRange_9_body gX7_removeRange_37
    rw [if_pos (by rw [io_lt (by omega) (by omega)]; omega), e1, bd7_some]
    rfl
  | succ d ih =>
    intro k f c t p h0 hf hk h pi hr cr hc
    obtain ⟨f, rfl⟩ : ∃ g, f = g + 1 := ⟨f - 1, by omega⟩
    have k64 : k < 64 := by omega
    have e0 : gX7_removeRange_9 (f + 1) (Int32.ofNat b) (Int32.ofNat c) (Int32.ofNat k) t = gX7_removeRange_9_body (gX7_removeRange_9 f) (Int32.ofNat b) (Int32.ofNat c) (Int32.ofNat k) t := rfl
    rw [e0]
    unfold gX7_removeRange_9_body
    rw [if_neg (by rw [io_lt (by omega) (by omega)]; omega), if_neg (by rw [show (64 : Int32) = Int32.ofNat 64 from rfl, io_le (by omega) (by omega)]; omega)]
    by_cases z : mA p 27 k = 0
    · have ep : pRem (-1) (d + 1) k c p = pRem (-1) d (k + 1) c p := by conv => lhs; unfold pRem; rw [if_pos (Or.inl z)]
      rw [c7_no h k64 z, bd7_some, ep, io_a1, show Int32.ofNat c + 0 = Int32.ofNat c from Int32.add_zero _]
      exact ih (k + 1) f c t p (by omega) (by omega) (by omega) h pi hr cr (by omega)
    · have ep : pRem (-1) (d + 1) k c p = pRem (-1) d (k + 1) (c + 1) (pGone (pRv c p) k) := by conv => lhs; unfold pRem; rw [if_neg (fun q => q.elim z (fun u => absurd u.1 (by decide)))]
      obtain ⟨t1, g1, g2, g3⟩ := c7_rm h pi hN k64 z hr cr
      rw [g1, bd7_some, ep, io_a1, io_a1]
      exact ih (k + 1) f (c + 1) t1 _ (by omega) (by omega) (by omega) g2 (pi_gone pi k64 z (by omega)) (by rw [if_neg (by omega)]; exact g3) (by rw [gone_42]; exact cr) (by omega)
theorem c7_rvk {l : Int32} {r : Int32} {N : Nat} (hl : 0 ≤ l) (hN : N ≤ 190) : ∀ (d k f c : Nat) (t : SS) (p : MS), k + d = 64 → d < f → SCr t p r → PI p N → mF p 40 = (if c = 0 then r else r + 1) → mF p 42 < r + 1 → c + d < 1000 → ∃ t', gX7_revoke_29 f l (Int32.ofNat c) (Int32.ofNat k) t = some (Int32.ofNat (pRem l d k c p).2, t') ∧ SC t' (pRem l d k c p).1 := by
  intro d
  induction d with
  | zero =>
    intro k f c t p h0 hf h pi hr cr hc
    obtain ⟨f, rfl⟩ : ∃ g, f = g + 1 := ⟨f - 1, by omega⟩
    obtain ⟨t', e1, e2⟩ := c7_fin h (by omega) hr
    refine ⟨t', ?_, e2⟩
    have e0 : gX7_revoke_29 (f + 1) l (Int32.ofNat c) (Int32.ofNat k) t = gX7_revoke_29_body (gX7_revoke_29 f) l (Int32.ofNat c) (Int32.ofNat k) t := rfl
    rw [e0]
    unfold gX7_revoke_29_body
    rw [if_pos (by rw [show (64 : Int32) = Int32.ofNat 64 from rfl, io_le (by omega) (by omega)]; omega), e1, bd7_some]
    rfl
  | succ d ih =>
    intro k f c t p h0 hf h pi hr cr hc
    obtain ⟨f, rfl⟩ : ∃ g, f = g + 1 := ⟨f - 1, by omega⟩
    have k64 : k < 64 := by omega
    have e0 : gX7_revoke_29 (f + 1) l (Int32.ofNat c) (Int32.ofNat k) t = gX7_revoke_29_body (gX7_revoke_29 f) l (Int32.ofNat c) (Int32.ofNat k) t := rfl
    have v6 : tA t 6 k = mA p 31 k := (h.2.2.2.2.1 k k64).2.2.2.2
    rw [e0]
    unfold gX7_revoke_29_body gX7_revoke_53
    rw [if_neg (by rw [show (64 : Int32) = Int32.ofNat 64 from rfl, io_le (by omega) (by omega)]; omega), l7_6 k64, bd_some, v6]
    by_cases y : mA p 31 k = l
    · rw [if_pos y]
      by_cases z : mA p 27 k = 0
      · have ep : pRem l (d + 1) k c p = pRem l d (k + 1) c p := by conv => lhs; unfold pRem; rw [if_pos (Or.inl z)]
        rw [c7_no h k64 z, bd7_some, ep, io_a1, show Int32.ofNat c + 0 = Int32.ofNat c from Int32.add_zero _]
        exact ih (k + 1) f c t p (by omega) (by omega) h pi hr cr (by omega)
      · have ep : pRem l (d + 1) k c p = pRem l d (k + 1) (c + 1) (pGone (pRv c p) k) := by conv => lhs; unfold pRem; rw [if_neg (fun q => q.elim z (fun u => u.2 y))]
        obtain ⟨t1, g1, g2, g3⟩ := c7_rm h pi hN k64 z hr cr
        rw [g1, bd7_some, ep, io_a1, io_a1]
        exact ih (k + 1) f (c + 1) t1 _ (by omega) (by omega) g2 (pi_gone pi k64 z (by omega)) (by rw [if_neg (by omega)]; exact g3) (by rw [gone_42]; exact cr) (by omega)
    · have ep : pRem l (d + 1) k c p = pRem l d (k + 1) c p := by conv => lhs; unfold pRem; rw [if_pos (Or.inr ⟨hl, y⟩)]
      rw [if_neg y, ep, io_a1]
      exact ih (k + 1) f c t p (by omega) (by omega) h pi hr cr (by omega)
