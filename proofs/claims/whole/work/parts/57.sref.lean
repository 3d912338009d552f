/-! ===== the reference's store does what THE STORE does ===== -/
def WFe (s : MS) : Prop := mF s 47 = Int32.ofNat (nE s)
theorem wf_ev {s : MS} {k : Nat} {b v : Int32} (h : nE s < 100000) : WFe (pEv s k b v) := by
  unfold WFe; rw [nE_ev h]; unfold pEv; exact mF_h _ _ _
theorem g_event {s : MS} {k : Nat} {b v : Int32} (h : WFe s) (hn : nE s < 5000) (hb : b = 0 ∨ b = 1) : gX10_event (Int32.ofNat k) b v s = some ((), pEv s k b v) := by
  unfold gX10_event rdF wrF
  simp only [bd_some, mF_uA, show mF s 47 = Int32.ofNat (nE s) from h, st_34 hn, st_35 hn, st_37 hn hb, st_36 hn, io_a1]
  rfl
theorem nE_f {s s' : MS} (h : mF s' 47 = mF s 47) : nE s' = nE s := by unfold nE; rw [h]
theorem wf_f {s s' : MS} (h : mF s' 47 = mF s 47) (w : WFe s) : WFe s' := by unfold WFe at *; rw [h, nE_f h]; exact w
theorem g_put29 {s : MS} {k : Nat} {v l : Int32} (h : WFe s) (hn : nE s < 5000) (hk : k < 64) : gX10_put_29 (Int32.ofNat k) v l s = some ((), pEv (pPu s k v l) k 1 v) := by
  unfold gX10_put_29 rdF
  simp only [ld_27 hk, bd_some, st_27 hk, st_29 hk, st_30 hk, st_31 hk, mF_uA]
  have e : uA (uA (uA (uA s 27 k (mA s 27 k + 1)) 29 k (mF s 40)) 30 k v) 31 k l = pPu s k v l := rfl
  rw [e, g_event (wf_f pu_f h) (by rw [nE_f pu_f]; exact hn) (Or.inr rfl), bdm_some]
theorem g_put {s : MS} {k : Nat} {v l : Int32} (h : WFe s) (hn : nE s < 5000) (hk : k < 64) : gX10_put (Int32.ofNat k) v l s = some ((), pPut s k v l) := by
  have f47 : mF (uF s 40 (mF s 40 + 1)) 47 = mF s 47 := mF_n _ _ (by decide)
  have w1 := wf_f f47 h
  have n1 : nE (uF s 40 (mF s 40 + 1)) < 5000 := by rw [nE_f f47]; exact hn
  unfold gX10_put rdF wrF
  simp only [bd_some, ld_27 hk]
  unfold pPut pCa
  by_cases z : mA (uF s 40 (mF s 40 + 1)) 27 k = 0
  · rw [if_pos z, if_pos z, st_28 hk, bd_some, g_put29 (s := uA (uF s 40 (mF s 40 + 1)) 28 k (mF (uF s 40 (mF s 40 + 1)) 40)) (wf_f (s := uF s 40 (mF s 40 + 1)) rfl w1) n1 hk]
  · rw [if_neg z, if_neg z, g_put29 w1 n1 hk]
theorem g_gone {s : MS} {k : Nat} (h : WFe s) (hn : nE s < 5000) (hk : k < 64) : gX10_gone (Int32.ofNat k) s = some ((), pGone s k) := by
  unfold gX10_gone
  simp only [st_27 hk, bd_some, st_28 hk, st_29 hk, st_30 hk, st_31 hk]
  have e : uA (uA (uA (uA (uA s 27 k 0) 28 k 0) 29 k 0) 30 k 0) 31 k 0 = pGo s k := rfl
  rw [e, g_event (wf_f go_f h) (by rw [nE_f go_f]; exact hn) (Or.inl rfl), bdm_some]
  rfl
theorem wf_gone {s : MS} {k c : Nat} (h : nE s < 5000) : WFe (pGone (pRv c s) k) ∧ nE (pGone (pRv c s) k) = nE s + 1 := by
  have e : nE (pGo (pRv c s) k) = nE s := nE_f (go_f.trans (rv_f (by decide)))
  exact ⟨wf_ev (by omega), by show nE (pEv _ _ _ _) = _; rw [nE_ev (by omega), e]⟩
theorem g_rem {l : Int32} {b : Nat} (hb : b < 64) : ∀ (d k f c : Nat) (s : MS), (k + d = b + 1 ∨ (d = 0 ∧ b < k)) → d < f → k ≤ 64 → WFe s → nE s + d < 5000 → c + d < 100000 → gX10_removed_6 f (Int32.ofNat b) l (Int32.ofNat c) (Int32.ofNat k) s = some (Int32.ofNat (pRem l d k c s).2, (pRem l d k c s).1) := by
  intro d
  induction d with
  | zero =>
    intro k f c s h0 hf hk w hn hc
    obtain ⟨f, rfl⟩ : ∃ g, f = g + 1 := ⟨f - 1, by omega⟩
    have e0 : gX10_removed_6 (f + 1) (Int32.ofNat b) l (Int32.ofNat c) (Int32.ofNat k) s = gX10_removed_6_body (gX10_removed_6 f) (Int32.ofNat b) l (Int32.ofNat c) (Int32.ofNat k) s := rfl
    rw [e0]
    unfold gX10_removed_6_body
    rw [if_pos (by rw [io_lt (by omega) (by omega)]; omega)]
    rfl
  | succ d ih =>
    intro k f c s h0 hf hk w hn hc
    obtain ⟨f, rfl⟩ : ∃ g, f = g + 1 := ⟨f - 1, by omega⟩
    have e0 : gX10_removed_6 (f + 1) (Int32.ofNat b) l (Int32.ofNat c) (Int32.ofNat k) s = gX10_removed_6_body (gX10_removed_6 f) (Int32.ofNat b) l (Int32.ofNat c) (Int32.ofNat k) s := rfl
    have k64 : k < 64 := by omega
    rw [e0]
    unfold gX10_removed_6_body gX10_removed_64 gX10_removed_40 gX10_removed_55 gX10_removed_64
    rw [if_neg (by rw [io_lt (by omega) (by omega)]; omega), ld_27 k64, bd_some]
    have skip := ih (k + 1) f c s (by omega) (by omega) (by omega) w (by omega) (by omega)
    have go : (if Int32.ofNat c = 0 then (bd (rdF s 40) fun z1 => bd (wrF s 40 (z1 + (1 : Int32))) fun s2 => bdm (gX10_gone (Int32.ofNat k) s2) fun _ s1 => gX10_removed_6 f (Int32.ofNat b) l (Int32.ofNat c + 1) (Int32.ofNat k + 1) s1) else (bdm (gX10_gone (Int32.ofNat k) s) fun _ s1 => gX10_removed_6 f (Int32.ofNat b) l (Int32.ofNat c + 1) (Int32.ofNat k + 1) s1)) = some (Int32.ofNat (pRem l d (k + 1) (c + 1) (pGone (pRv c s) k)).2, (pRem l d (k + 1) (c + 1) (pGone (pRv c s) k)).1) := by
      have wg := wf_gone (k := k) (c := c) (show nE s < 5000 by omega)
      have fin := ih (k + 1) f (c + 1) (pGone (pRv c s) k) (by omega) (by omega) (by omega) wg.1 (by omega) (by omega)
      have cz : (Int32.ofNat c = 0) ↔ c = 0 := by rw [show (0 : Int32) = Int32.ofNat 0 from rfl, io_eq (by omega) (by omega)]
      unfold rdF wrF
      by_cases z : c = 0
      · rw [if_pos (cz.mpr z), bd_some, bd_some]
        have e : pRv c s = uF s 40 (mF s 40 + 1) := by unfold pRv; rw [if_pos z]
        rw [← e, g_gone (wf_f (rv_f (by decide)) w) (by rw [nE_f (rv_f (by decide))]; omega) k64, bdm_some, io_a1, io_a1, fin]
      · rw [if_neg (fun q => z (cz.mp q))]
        have e : pRv c s = s := by unfold pRv; rw [if_neg z]
        rw [e] at fin ⊢
        rw [g_gone w (by omega) k64, bdm_some, io_a1, io_a1, fin]
    by_cases z : mA s 27 k = 0
    · have ep : pRem l (d + 1) k c s = pRem l d (k + 1) c s := by conv => lhs; unfold pRem; rw [if_pos (Or.inl z)]
      rw [if_pos z, ep, io_a1]; exact skip
    · rw [if_neg z]
      by_cases zl : l < 0
      · have ep : pRem l (d + 1) k c s = pRem l d (k + 1) (c + 1) (pGone (pRv c s) k) := by conv => lhs; unfold pRem; rw [if_neg (fun q => q.elim z (fun u => absurd zl (Int32.not_lt.mpr u.1)))]
        rw [if_pos zl, ep]; exact go
      · rw [if_neg zl, ld_31 k64, bd_some]
        by_cases z3 : mA s 31 k = l
        · have ep : pRem l (d + 1) k c s = pRem l d (k + 1) (c + 1) (pGone (pRv c s) k) := by conv => lhs; unfold pRem; rw [if_neg (fun q => q.elim z (fun u => u.2 z3))]
          rw [if_pos z3, ep]; exact go
        · have ep : pRem l (d + 1) k c s = pRem l d (k + 1) c s := by conv => lhs; unfold pRem; rw [if_pos (Or.inr ⟨Int32.not_lt.mp zl, z3⟩)]
          rw [if_neg z3, ep, io_a1]; exact skip
theorem rem_wf {l : Int32} : ∀ (d k c : Nat) (s : MS), WFe s → nE s + d < 5000 → WFe (pRem l d k c s).1 ∧ nE (pRem l d k c s).1 ≤ nE s + d ∧ mF (pRem l d k c s).1 41 = mF s 41
  | 0, _, _, s, w, _ => ⟨w, Nat.le_refl _, rfl⟩
  | d + 1, k, c, s, w, hn => by
    unfold pRem
    split
    · have := rem_wf (l := l) d (k + 1) c s w (by omega)
      exact ⟨this.1, by omega, this.2.2⟩
    · have wg := wf_gone (k := k) (c := c) (show nE s < 5000 by omega)
      have := rem_wf (l := l) d (k + 1) (c + 1) _ wg.1 (by omega)
      refine ⟨this.1, by omega, this.2.2.trans ?_⟩
      show mF (pEv _ _ _ _) 41 = _
      rw [ev_f (by decide), go_f, rv_f (by decide)]
theorem g_removed {l : Int32} {a b : Nat} {s : MS} (ha : a < 64) (hb : b < 64) (w : WFe s) (hn : nE s < 4900) : gX10_removed (Int32.ofNat a) (Int32.ofNat b) l s = some (Int32.ofNat (pRem l (b + 1 - a) a 0 s).2, (pRem l (b + 1 - a) a 0 s).1) := by
  unfold gX10_removed
  rw [show (0 : Int32) = Int32.ofNat 0 from rfl]
  exact g_rem hb (b + 1 - a) a LF 0 s (by omega) (LF_lt (by omega)) (by omega) w (by omega) (by omega)
theorem g_says {s : MS} {k : Nat} {w : Int32} (hk : k < 64) : gX10_says (Int32.ofNat k) w s = some (pSays s k w, s) := by
  unfold gX10_says pSays
  simp only [ld_27 hk, ld_28 hk, ld_29 hk, ld_30 hk, bd_some]
  by_cases z : w = 0
  · rw [if_pos z, if_pos z]
  · rw [if_neg z, if_neg z]
    by_cases z1 : w = 1
    · rw [if_pos z1, if_pos z1]
    · rw [if_neg z1, if_neg z1]
      by_cases z2 : w = 2
      · rw [if_pos z2, if_pos z2]
      · rw [if_neg z2, if_neg z2]
theorem g_tk : ∀ (d l f : Nat) (s : MS), l + d = 9 → d < f → WFe s → nE s + 64 * d < 4900 → gX10_done_297 f (Int32.ofNat l) s = some (mF s 41, pTk d l s) := by
  intro d
  induction d with
  | zero =>
    intro l f s h0 hf w hn
    obtain ⟨f, rfl⟩ : ∃ g, f = g + 1 := ⟨f - 1, by omega⟩
    have e0 : gX10_done_297 (f + 1) (Int32.ofNat l) s = gX10_done_297_body (gX10_done_297 f) (Int32.ofNat l) s := rfl
    rw [e0]
    unfold gX10_done_297_body rdF
    rw [if_pos (by rw [show (8 : Int32) = Int32.ofNat 8 from rfl, io_lt (by omega) (by omega)]; omega), bd_some]
    rfl
  | succ d ih =>
    intro l f s h0 hf w hn
    obtain ⟨f, rfl⟩ : ∃ g, f = g + 1 := ⟨f - 1, by omega⟩
    have e0 : gX10_done_297 (f + 1) (Int32.ofNat l) s = gX10_done_297_body (gX10_done_297 f) (Int32.ofNat l) s := rfl
    rw [e0]
    unfold gX10_done_297_body rdF gX10_done_349
    rw [if_neg (by rw [show (8 : Int32) = Int32.ofNat 8 from rfl, io_lt (by omega) (by omega)]; omega), ld_32 (by omega), bd_some]
    have skip := ih (l + 1) f s (by omega) (by omega) w (by omega)
    by_cases z : mA s 32 l = 0
    · have ep : pTk (d + 1) l s = pTk d (l + 1) s := by conv => lhs; unfold pTk; rw [if_pos (Or.inl z)]
      rw [if_pos z, ep, io_a1]; exact skip
    · rw [if_neg z, ld_33 (by omega), bd_some, bd_some]
      by_cases z2 : mA s 33 l ≤ mF s 41
      · have ep : pTk (d + 1) l s = pTk d (l + 1) (pRem (Int32.ofNat l) 64 0 0 (uA s 32 l 0)).1 := by conv => lhs; unfold pTk; rw [if_neg (fun q => q.elim z (fun u => absurd u (Int32.not_lt.mpr z2)))]
        have w1 : WFe (uA s 32 l 0) := wf_f rfl w
        have n1 : nE (uA s 32 l 0) = nE s := nE_f rfl
        have rw1 := rem_wf (l := Int32.ofNat l) 64 0 0 (uA s 32 l 0) w1 (by omega)
        have gr := g_removed (l := Int32.ofNat l) (a := 0) (b := 63) (s := uA s 32 l 0) (by decide) (by decide) w1 (by omega)
        rw [if_pos z2, s0_32 (by omega), bd_some, show (0 : Int32) = Int32.ofNat 0 from rfl, show (63 : Int32) = Int32.ofNat 63 from rfl]
        show bdm (gX10_removed (Int32.ofNat 0) (Int32.ofNat 63) (Int32.ofNat l) (uA s 32 l 0)) _ = _
        rw [gr, bdm_some, ep, io_a1]
        have fin := ih (l + 1) f (pRem (Int32.ofNat l) 64 0 0 (uA s 32 l 0)).1 (by omega) (by omega) rw1.1 (by omega)
        rw [rw1.2.2] at fin
        exact fin
      · have ep : pTk (d + 1) l s = pTk d (l + 1) s := by conv => lhs; unfold pTk; rw [if_pos (Or.inr (Int32.not_le.mp z2))]
        rw [if_neg z2, ep, io_a1]; exact skip
theorem ls_n {x : Int32} (h1 : 0 ≤ x) (h2 : x ≤ 8) : pN x < 9 ∧ x = Int32.ofNat (pN x) := by
  have e := io_of h1
  have l : x ≤ Int32.ofNat 8 := h2
  rw [e, io_le (Int32.toNatClampNeg_lt x) (by decide)] at l
  exact ⟨by unfold pN; omega, e⟩
theorem g_done {s : MS} {e : Nat → Int32} (w : WFe s) (hn : nE s < 4000) (he : legalE e) : gX10_done (e 1) (e 2) (e 3) (e 4) (e 5) (e 6) (e 7) s = some ((pDone e s).2, (pDone e s).1) := by
  unfold gX10_done pDone rdF wrF
  rcases he.2 with z | ⟨z, k1, k2, k3⟩ | ⟨z, k1, k2⟩ | ⟨z, k1, k2, k3, k4, k5, k6⟩ | ⟨z, k1, k2⟩ | z | z
  · simp only [z, if_true]; simp
  · obtain ⟨a1, a2⟩ := isK_n k1
    obtain ⟨b1, b2⟩ := ls_n k2 k3
    rw [z, if_neg (by decide), if_pos rfl, if_pos rfl]
    unfold gX10_done_67 rdF
    have pt : gX10_put (e 2) (e 3) (e 4) s = some ((), pPut s (pN (e 2)) (e 3) (e 4)) := by rw [a2, g_put w (by omega) a1]; rw [← a2]
    have r40 : mF (pPut s (pN (e 2)) (e 3) (e 4)) 40 = mF s 40 + 1 := by unfold pPut; rw [ev_f (by decide), pu_f, ca_f, mF_h]
    by_cases y : e 4 = 0
    · rw [if_pos y, if_neg (fun q => q.1 y), pt, bdm_some, bd_some, r40]
    · have ld : ldA s 13 32 (e 4) = some (mA s 32 (pN (e 4))) := by rw [b2, ld_32 b1]; rw [← b2]
      rw [if_neg y, ld, bd_some]
      by_cases y2 : mA s 32 (pN (e 4)) = 0
      · rw [if_pos y2, if_pos ⟨y, y2⟩]
      · rw [if_neg y2, if_neg (fun q => y2 q.2), pt, bdm_some, bd_some, r40]
  · obtain ⟨a1, a2⟩ := isK_n k1
    obtain ⟨b1, b2⟩ := isK_n k2
    rw [z, if_neg (by decide), if_neg (by decide), if_pos rfl, if_neg (by decide), if_pos rfl]
    have gr := g_removed (l := -1) a1 b1 w (by omega)
    rw [← a2, ← b2] at gr
    rw [gr, bdm_some]
  · obtain ⟨a1, a2⟩ := isK_n k1
    obtain ⟨b1, b2⟩ := isK_n k2
    rw [z, if_neg (by decide), if_neg (by decide), if_neg (by decide), if_pos rfl, if_neg (by decide), if_neg (by decide), if_pos rfl]
    have gs : gX10_says (e 2) (e 3) s = some (pSays s (pN (e 2)) (e 3), s) := by
      have := g_says (s := s) (w := e 3) a1
      rw [← a2] at this; exact this
    have pt : gX10_put (e 6) (e 7) 0 s = some ((), pPut s (pN (e 6)) (e 7) 0) := by
      have := g_put (v := e 7) (l := 0) w (by omega) b1
      rw [← b2] at this; exact this
    have gr := g_removed (l := -1) b1 b1 w (by omega)
    rw [← b2, show pN (e 6) + 1 - pN (e 6) = 1 by omega] at gr
    have yes : gX10_done_149 (e 6) (e 7) 1 s = some (1, pPut s (pN (e 6)) (e 7) 0) := by
      unfold gX10_done_149 gX10_done_178
      rw [if_neg (by decide), pt, bdm_some, if_neg (by decide)]
    have no : gX10_done_149 (e 6) (e 7) 0 s = some (0, (pRem (-1) 1 (pN (e 6)) 0 s).1) := by
      unfold gX10_done_149 gX10_done_178
      rw [if_pos rfl, gr, bdm_some, if_pos rfl]
    rw [gs, bdm_some, yes, no]
    unfold pCmp
    by_cases y : e 4 = 0
    · rw [if_pos y, if_pos y]
      by_cases y2 : pSays s (pN (e 2)) (e 3) = e 5
      · rw [if_pos y2, if_pos (decide_eq_true y2)]
      · rw [if_neg y2, if_neg (by simp [y2])]
    · rw [if_neg y, if_neg y]
      by_cases y1 : e 4 = 1
      · rw [if_pos y1, if_pos y1]
        by_cases y2 : e 5 ≤ pSays s (pN (e 2)) (e 3)
        · rw [if_pos y2, if_neg (by rw [decide_eq_true_eq]; exact Int32.not_lt.mpr y2)]
        · rw [if_neg y2, if_pos (decide_eq_true (Int32.not_le.mp y2))]
      · rw [if_neg y1, if_neg y1]
        by_cases y2 : pSays s (pN (e 2)) (e 3) ≤ e 5
        · rw [if_pos y2, if_neg (by rw [decide_eq_true_eq]; exact Int32.not_lt.mpr y2)]
        · rw [if_neg y2, if_pos (decide_eq_true (Int32.not_le.mp y2))]
  · have k0 : 0 ≤ e 2 := Int32.le_trans (by decide) k1
    obtain ⟨a1, a2⟩ := ls_n k0 k2
    have ld : ldA s 13 32 (e 2) = some (mA s 32 (pN (e 2))) := by
      have := ld_32 (s := s) a1
      rw [← a2] at this; exact this
    rcases z with z | z | z
    · rw [z, if_neg (by decide), if_neg (by decide), if_neg (by decide), if_neg (by decide), if_pos rfl, if_neg (by decide), if_neg (by decide), if_neg (by decide), if_pos rfl, ld, bd_some]
      by_cases y : mA s 32 (pN (e 2)) = 0
      · have st : stB s 13 32 (e 2) 1 = some (uA s 32 (pN (e 2)) 1) := by
          have := s1_32 (s := s) a1
          rw [← a2] at this; exact this
        have st2 : ∀ v, stA (uA s 32 (pN (e 2)) 1) 11 33 (e 2) v = some (uA (uA s 32 (pN (e 2)) 1) 33 (pN (e 2)) v) := fun v => by
          have := st_33 (s := uA s 32 (pN (e 2)) 1) (v := v) a1
          rw [← a2] at this; exact this
        rw [if_pos y, if_pos y, st, bd_some, bd_some, st2, bd_some]; rfl
      · rw [if_neg y, if_neg y]
    · rw [z, if_neg (by decide), if_neg (by decide), if_neg (by decide), if_neg (by decide), if_neg (by decide), if_pos rfl, if_neg (by decide), if_neg (by decide), if_neg (by decide), if_neg (by decide), if_pos rfl, ld, bd_some]
      by_cases y : mA s 32 (pN (e 2)) = 0
      · rw [if_pos y, if_pos y]
      · have st : stB s 13 32 (e 2) 0 = some (uA s 32 (pN (e 2)) 0) := by
          have := s0_32 (s := s) a1
          rw [← a2] at this; exact this
        have gr := g_removed (l := e 2) (a := 0) (b := 63) (s := uA s 32 (pN (e 2)) 0) (by decide) (by decide) (wf_f (s := s) rfl w) (show nE s < 4900 by omega)
        rw [if_neg y, if_neg y, st, bd_some]
        show bdm (gX10_removed (Int32.ofNat 0) (Int32.ofNat 63) (e 2) _) _ = _
        rw [gr, bdm_some]
    · rw [z, if_neg (by decide), if_neg (by decide), if_neg (by decide), if_neg (by decide), if_neg (by decide), if_neg (by decide), if_pos rfl, if_neg (by decide), if_neg (by decide), if_neg (by decide), if_neg (by decide), if_neg (by decide), if_pos rfl, ld, bd_some]
      unfold gX10_done_269
      by_cases y : mA s 32 (pN (e 2)) = 0
      · rw [if_pos y, if_pos y, ld, bd_some, if_pos y]
      · have st2 : ∀ v, stA s 11 33 (e 2) v = some (uA s 33 (pN (e 2)) v) := fun v => by
          have := st_33 (s := s) (v := v) a1
          rw [← a2] at this; exact this
        have ld2 : ∀ v, ldA (uA s 33 (pN (e 2)) v) 13 32 (e 2) = some (mA s 32 (pN (e 2))) := fun v => by
          have := ld_32 (s := uA s 33 (pN (e 2)) v) a1
          rw [← a2, mA_k _ _ _ _ (by decide)] at this; exact this
        rw [if_neg y, if_neg y, bd_some, st2, bd_some, ld2, bd_some, if_neg y]
  · rw [z, if_neg (by decide), if_neg (by decide), if_neg (by decide), if_neg (by decide), if_neg (by decide), if_neg (by decide), if_neg (by decide), if_pos rfl, if_neg (by decide), if_neg (by decide), if_neg (by decide), if_neg (by decide), if_neg (by decide), if_neg (by decide), if_pos rfl, bd_some, bd_some, show (1 : Int32) = Int32.ofNat 1 from rfl]
    have f47 : mF (uF s 41 (mF s 41 + Int32.ofNat 1)) 47 = mF s 47 := mF_n _ _ (by decide)
    have := g_tk 8 1 LF (uF s 41 (mF s 41 + Int32.ofNat 1)) rfl (LF_lt (by decide)) (wf_f f47 w) (by rw [nE_f (s := s) f47]; omega)
    rw [this, mF_h]
  · rw [z, if_neg (by decide), if_neg (by decide), if_neg (by decide), if_neg (by decide), if_neg (by decide), if_neg (by decide), if_neg (by decide), if_neg (by decide), if_neg (by decide), if_neg (by decide), if_neg (by decide), if_neg (by decide), if_neg (by decide), if_neg (by decide), if_neg (by decide), if_pos rfl, bd_some]
    by_cases y : e 2 ≤ mF s 42
    · rw [if_pos y, if_pos (Or.inl y)]
    · rw [if_neg y, bd_some]
      by_cases y2 : e 2 ≤ mF s 40
      · rw [if_pos y2, if_neg (fun q => q.elim y (fun u => absurd u (Int32.not_lt.mpr y2))), bd_some]
      · rw [if_neg y2, if_pos (Or.inr (Int32.not_le.mp y2))]
