/-! ===== the reference works the log off ===== -/
/-- s' is s but for the store's rows -/
def SFr (s s' : MS) : Prop := (∀ y i, y < 27 ∨ y = 38 → mA s' y i = mA s y i) ∧ ∀ f, (f < 40 ∨ (f ≠ 47 ∧ 42 < f)) → mF s' f = mF s f
theorem sf_refl (s : MS) : SFr s s := ⟨fun _ _ _ => rfl, fun _ _ => rfl⟩
theorem sf_trans {s s' s'' : MS} (p : SFr s s') (q : SFr s' s'') : SFr s s'' := ⟨fun y i h => (q.1 y i h).trans (p.1 y i h), fun f h => (q.2 f h).trans (p.2 f h)⟩
theorem sf_uA {s : MS} {x i : Nat} {v : Int32} (h : 27 ≤ x ∧ x ≤ 37) : SFr s (uA s x i v) := ⟨fun y j hy => mA_k _ _ _ _ (by omega), fun _ _ => rfl⟩
theorem sf_uF {s : MS} {f : Nat} {v : Int32} (h : f = 40 ∨ f = 41 ∨ f = 42 ∨ f = 47) : SFr s (uF s f v) := ⟨fun _ _ _ => rfl, fun k hk => mF_n _ _ (by omega)⟩
theorem sf_ev {s : MS} {k : Nat} {b v : Int32} : SFr s (pEv s k b v) := sf_trans (sf_trans (sf_trans (sf_trans (sf_uA (by decide)) (sf_uA (by decide))) (sf_uA (by decide))) (sf_uA (by decide))) (sf_uF (by decide))
theorem sf_put {s : MS} {k : Nat} {v l : Int32} : SFr s (pPut s k v l) := by
  have a : SFr s (uF s 40 (mF s 40 + 1)) := sf_uF (by decide)
  have b : SFr (uF s 40 (mF s 40 + 1)) (pCa (uF s 40 (mF s 40 + 1)) k) := by
    unfold pCa; split
    · exact sf_uA (by decide)
    · exact sf_refl _
  have c : ∀ q, SFr q (pPu q k v l) := fun q => sf_trans (sf_trans (sf_trans (sf_uA (by decide)) (sf_uA (by decide))) (sf_uA (by decide))) (sf_uA (by decide))
  exact sf_trans (sf_trans (sf_trans a b) (c _)) sf_ev
theorem sf_gone {s : MS} {k c : Nat} : SFr s (pGone (pRv c s) k) := by
  have a : SFr s (pRv c s) := by
    unfold pRv; split
    · exact sf_uF (by decide)
    · exact sf_refl _
  have b : ∀ q, SFr q (pGo q k) := fun q => sf_trans (sf_trans (sf_trans (sf_trans (sf_uA (by decide)) (sf_uA (by decide))) (sf_uA (by decide))) (sf_uA (by decide))) (sf_uA (by decide))
  exact sf_trans (sf_trans a (b _)) sf_ev
theorem sf_rem {l : Int32} : ∀ (d k c : Nat) (s : MS), SFr s (pRem l d k c s).1
  | 0, _, _, s => sf_refl s
  | d + 1, k, c, s => by
    unfold pRem; split
    · exact sf_rem d (k + 1) c s
    · exact sf_trans sf_gone (sf_rem d (k + 1) (c + 1) _)
theorem sf_tk : ∀ (d l : Nat) (s : MS), SFr s (pTk d l s)
  | 0, _, s => sf_refl s
  | d + 1, l, s => by
    unfold pTk; split
    · exact sf_tk d (l + 1) s
    · exact sf_trans (sf_trans (sf_uA (by decide)) (sf_rem 64 0 0 _)) (sf_tk d (l + 1) _)
theorem sf_done {e : Nat → Int32} {s : MS} : SFr s (pDone e s).1 := by
  unfold pDone
  repeat' split
  all_goals first
    | exact sf_refl s
    | exact sf_put
    | exact sf_rem _ _ _ s
    | exact sf_trans (sf_uA (by decide)) (sf_uA (by decide))
    | exact sf_trans (sf_uA (by decide)) (sf_rem _ _ _ _)
    | exact sf_uA (by decide)
    | exact sf_trans (sf_uF (by decide)) (sf_tk _ _ _)
    | exact sf_uF (by decide)
/-- the first event above COMPACTED -/
theorem g_fe {s : MS} (w : WFe s) (hn : nE s < 5000) : ∀ (d i f : Nat), i + d = nE s → d < f → gX10_firstEvent_2 f (Int32.ofNat i) s = some (Int32.ofNat (fE s d i), s) := by
  intro d
  induction d with
  | zero =>
    intro i f h0 hf
    obtain ⟨f, rfl⟩ : ∃ g, f = g + 1 := ⟨f - 1, by omega⟩
    have e0 : gX10_firstEvent_2 (f + 1) (Int32.ofNat i) s = gX10_firstEvent_2_body (gX10_firstEvent_2 f) (Int32.ofNat i) s := rfl
    rw [e0]
    unfold gX10_firstEvent_2_body rdF
    rw [bd_some, show mF s 47 = Int32.ofNat (nE s) from w, if_pos (by rw [io_le (by omega) (by omega)]; omega)]
    rfl
  | succ d ih =>
    intro i f h0 hf
    obtain ⟨f, rfl⟩ : ∃ g, f = g + 1 := ⟨f - 1, by omega⟩
    have e0 : gX10_firstEvent_2 (f + 1) (Int32.ofNat i) s = gX10_firstEvent_2_body (gX10_firstEvent_2 f) (Int32.ofNat i) s := rfl
    rw [e0]
    unfold gX10_firstEvent_2_body rdF fE
    rw [bd_some, show mF s 47 = Int32.ofNat (nE s) from w, if_neg (by rw [io_le (by omega) (by omega)]; omega), ld_34 (by omega), bd_some, bd_some]
    by_cases z : mF s 42 < mA s 34 i
    · rw [if_pos z, if_pos z]
    · rw [if_neg z, if_neg z, io_a1]; exact ih (i + 1) f (by omega) (by omega)
theorem fE_le {p : MS} : ∀ (d i : Nat), i ≤ fE p d i ∧ fE p d i ≤ i + d
  | 0, i => ⟨Nat.le_refl _, Nat.le_refl _⟩
  | d + 1, i => by
    unfold fE; split
    · omega
    · have := fE_le (p := p) d (i + 1); omega
theorem fV_le (p : MS) : fV p ≤ nE p := by have := (fE_le (p := p) (nE p) 0).2; unfold fV; omega
theorem g_first {s : MS} (w : WFe s) (hn : nE s < 5000) : gX10_firstEvent s = some (Int32.ofNat (fV s), s) := by
  unfold gX10_firstEvent fV
  rw [show (0 : Int32) = Int32.ofNat 0 from rfl]
  exact g_fe w hn (nE s) 0 LF (by omega) (LF_lt (by omega))
theorem sm_fE {s p : MS} (h : SM s p) : ∀ (d i : Nat), i + d ≤ nE p → fE s d i = fE p d i
  | 0, _, _ => rfl
  | d + 1, i, hi => by
    unfold fE
    rw [h.2.2.1, (h.2.2.2.2.2.2.2 i (by omega)).1, sm_fE h d (i + 1) (by omega)]
theorem sm_fV {s p : MS} (h : SM s p) : fV s = fV p := by unfold fV; rw [sm_n h, sm_fE h (nE p) 0 (by omega)]
theorem sm_wf {s p : MS} (h : SM s p) (w : WFe p) : WFe s := wf_f h.2.2.2.1 w
section
variable {g : GH} {B K W n : Nat}
/-- what a committed log may hold -/
theorem mi_legal {s : MS} (mi : MI s g B K W) {i : Nat} (h1 : 1 ≤ i) (h2 : i ≤ lsM s n) : legalE (lgM s n i) := by
  obtain ⟨_, _, q3, q4⟩ := mi.1.2.2.2.1 n i h1 h2
  rw [q4 i (Nat.le_refl _)]
  exact mi.2.2.2.2.2.2.2.2.2 _ i h1 q3
theorem cp_legal {s : MS} (mi : MI s g B K W) {x : Nat → Nat → Int32} {T k i : Nat} (c : CPM g x T k) (h1 : 1 ≤ i) (h2 : i ≤ k) : legalE (x i) := by
  rcases c with z | ⟨t, j, c1, c2, c3, c4⟩
  · omega
  · rw [c4 i h2]
    exact mi.2.2.2.2.2.2.2.2.2 t i h1 (by have := c2.2.1; omega)
theorem cp_le {s : MS} (mi : MI s g B K W) {x : Nat → Nat → Int32} {T k : Nat} (c : CPM g x T k) : k ≤ B := by
  rcases c with z | ⟨t, j, c1, c2, c3, c4⟩
  · omega
  · have := c2.2.1; have := mi.2.2.2.1 t; omega
/-- one entry after the other -/
theorem g_184 {x : Nat → Nat → Int32} {idx : Nat} (hn : n < 5) (hi : idx ≤ 200) (hl : ∀ j, 1 ≤ j → j ≤ idx → legalE (x j)) : ∀ (d j f : Nat) (s : MS), j + d = idx → d < f → SM s (rp x j) → mF s 50 = Int32.ofNat j → (∀ i, 1 ≤ i → i ≤ j → mA s 38 i = rr x i) → (∀ i, 1 ≤ i → i ≤ idx → lgM s n i = x i) → ∃ s', gX10_work_184 f (Int32.ofNat n) (Int32.ofNat idx) s = some ((), s') ∧ SM s' (rp x idx) ∧ mF s' 50 = Int32.ofNat idx ∧ (∀ i, 1 ≤ i → i ≤ idx → mA s' 38 i = rr x i) ∧ (∀ y i, y < 27 → mA s' y i = mA s y i) ∧ ∀ k, (k < 40 ∨ (k ≠ 47 ∧ k ≠ 50 ∧ 42 < k)) → mF s' k = mF s k := by
  intro d
  induction d with
  | zero =>
    intro j f s h0 hf h1 h2 h3 h4
    obtain ⟨f, rfl⟩ : ∃ g, f = g + 1 := ⟨f - 1, by omega⟩
    have e : j = idx := by omega
    subst e
    refine ⟨s, ?_, h1, h2, h3, fun _ _ _ => rfl, fun _ _ => rfl⟩
    have e0 : gX10_work_184 (f + 1) (Int32.ofNat n) (Int32.ofNat j) s = gX10_work_184_body (gX10_work_184 f) (Int32.ofNat n) (Int32.ofNat j) s := rfl
    rw [e0]
    unfold gX10_work_184_body rdF
    rw [bd_some, h2, if_pos (Int32.le_refl _)]
  | succ d ih =>
    intro j f s h0 hf h1 h2 h3 h4
    obtain ⟨f, rfl⟩ : ∃ g, f = g + 1 := ⟨f - 1, by omega⟩
    have pij := pi_rp (x := x) j (by omega) (fun i e1 e2 => hl i e1 (by omega))
    have pij1 := pi_rp (x := x) (j + 1) (by omega) (fun i e1 e2 => hl i e1 (by omega))
    have nj := pi_n pij
    have nj1 := pi_n pij1
    have lj := hl (j + 1) (by omega) (by omega)
    obtain ⟨s1, hs1⟩ : ∃ s1, s1 = uF s 50 (Int32.ofNat (j + 1)) := ⟨_, rfl⟩
    have sm1 : SM s1 (rp x j) := by
      rw [hs1]
      obtain ⟨a1, a2, a3, a4, a5⟩ := h1
      exact ⟨(mF_n _ _ (by decide)).trans a1, (mF_n _ _ (by decide)).trans a2, (mF_n _ _ (by decide)).trans a3, (mF_n _ _ (by decide)).trans a4, a5⟩
    have w1 := sm_wf sm1 (pi_wf pij)
    have n1 : nE s1 ≤ 2 * j := by rw [sm_n sm1]; exact nj
    have row : ∀ y, y < 8 → mA s1 13 ((n * 1201 + (j + 1)) * 8 + y) = x (j + 1) y := fun y hy => by
      rw [← h4 (j + 1) (by omega) (by omega), hs1]
      show mA s 13 _ = _
      unfold lgM; rw [if_pos ⟨by omega, hy⟩]
    obtain ⟨dr, ds⟩ := sm_done sm1 pij (by omega) lj
    have gd := g_done w1 (by omega) lj
    obtain ⟨s2, hs2⟩ : ∃ s2, s2 = uA (pDone (x (j + 1)) s1).1 38 (j + 1) (pDone (x (j + 1)) s1).2 := ⟨_, rfl⟩
    have sf := sf_done (e := x (j + 1)) (s := s1)
    have sm2 : SM s2 (rp x (j + 1)) := by
      rw [hs2]
      obtain ⟨a1, a2, a3, a4, a5, a6, a7, a8⟩ := ds
      have xk : ∀ y i, y ≠ 38 → mA (uA (pDone (x (j + 1)) s1).1 38 (j + 1) (pDone (x (j + 1)) s1).2) y i = mA (pDone (x (j + 1)) s1).1 y i := fun y i hy => mA_k _ _ _ _ hy
      refine ⟨a1, a2, a3, a4, fun k hk => ?_, fun l hl => by rw [xk 32 l (by decide)]; exact a6 l hl, fun l hl q => by rw [xk 33 l (by decide)]; exact a7 l hl q, fun i hi => ?_⟩
      · rw [xk 27 k (by decide), xk 28 k (by decide), xk 29 k (by decide), xk 30 k (by decide), xk 31 k (by decide)]; exact a5 k hk
      · rw [xk 34 i (by decide), xk 35 i (by decide), xk 36 i (by decide), xk 37 i (by decide)]; exact a8 i hi
    have w2 := sm_wf sm2 (pi_wf pij1)
    have n2 : nE s2 ≤ 2 * (j + 1) := by rw [sm_n sm2]; exact nj1
    have f2 := g_first w2 (by omega)
    have fl := fV_le s2
    have y2 : ∀ y i, y < 27 → mA s2 y i = mA s y i := fun y i hy => by
      rw [hs2, mA_k _ _ _ _ (by omega), sf.1 y i (by omega), hs1]; rfl
    have m2 : ∀ k, (k < 40 ∨ (k ≠ 47 ∧ k ≠ 50 ∧ 42 < k)) → mF s2 k = mF s k := fun k hk => by
      rw [hs2, mF_uA, sf.2 k (by omega), hs1, mF_n _ _ (by omega)]
    have q50 : mF s2 50 = Int32.ofNat (j + 1) := by rw [hs2, mF_uA, sf.2 50 (by omega), hs1, mF_h]
    obtain ⟨s', g1, g2, g3, g4, g5, g6⟩ := ih (j + 1) f s2 (by omega) (by omega) sm2 q50 (fun i e1 e2 => by
      by_cases z : i = j + 1
      · subst z; rw [hs2, mA_h, dr]; rfl
      · rw [hs2, mA_i _ _ _ _ z, sf.1 38 i (by omega), hs1]; exact h3 i e1 (by omega)) (fun i e1 e2 => by
      rw [← h4 i e1 e2]; unfold lgM; funext y; rw [y2 13 _ (by decide)])
    refine ⟨s', ?_, g2, g3, g4, fun y i hy => (g5 y i hy).trans (y2 y i hy), fun k hk => (g6 k hk).trans (m2 k hk)⟩
    have e0 : gX10_work_184 (f + 1) (Int32.ofNat n) (Int32.ofNat idx) s = gX10_work_184_body (gX10_work_184 f) (Int32.ofNat n) (Int32.ofNat idx) s := rfl
    rw [e0]
    unfold gX10_work_184_body rdF wrF
    have r50 : mF s1 50 = Int32.ofNat (j + 1) := by rw [hs1, mF_h]
    have nle : ¬ Int32.ofNat idx ≤ Int32.ofNat j := by rw [io_le (by omega) (by omega)]; omega
    have ldr : ∀ y, y < 8 → ∀ v, v = Int32.ofNat y → ldA s1 11 13 (Int32.ofNat ((n * 1201 + (j + 1)) * 8) + v) = some (x (j + 1) y) := fun y hy v hv => by rw [hv, io_ad, ld_13 (by omega), row y hy]
    have l1 : ldA s1 11 13 (Int32.ofNat ((n * 1201 + (j + 1)) * 8 + 1)) = some (x (j + 1) 1) := by rw [ld_13 (by omega), row 1 (by decide)]
    simp only [bd_some, h2, if_neg nle, io_a1, ← hs1, r50, g_at, bdm_some, l1, ldr 2 (by decide) 2 rfl, ldr 3 (by decide) 3 rfl, ldr 4 (by decide) 4 rfl, ldr 5 (by decide) 5 rfl, ldr 6 (by decide) 6 rfl, ldr 7 (by decide) 7 rfl, gd, st_38 (show j + 1 < 1201 by omega), ← hs2]
    have e1 : gX10_work_291 (gX10_work_184 f) LF (Int32.ofNat n) (Int32.ofNat idx) s2 = gX10_work_291_body (gX10_work_184 f) (gX10_work_291 (gX10_work_184 f) 999999) (Int32.ofNat n) (Int32.ofNat idx) s2 := rfl
    rw [e1]
    unfold gX10_work_291_body rdF
    rw [bd_some, f2, bdm_some, show mF s2 47 = Int32.ofNat (nE s2) from w2, io_sb fl, if_pos (by rw [show (400 : Int32) = Int32.ofNat 400 from rfl, io_le (by omega) (by omega)]; omega)]
    exact g1
end
