/-! ===== what each act of the reference keeps ===== -/
theorem mi_step {s s' : MS} {g g' : GH} {B B' K W : Nat} (h : MI s g B K W) (hr : RM s' g') (hn : ∀ n, n < 5 → NI s' g' n) (ht : ∀ v, tmM s' v ≤ B') (hw : ∀ T, gW g' T ≤ B') (hv : ∀ w T, gV g' w T ≤ 5) (hg : GLe g g') (hB : B ≤ B') (e : ∀ x i, 15 ≤ x → x ≤ 25 → mA s' x i = mA s x i) (f1 : mF s' 24 = mF s 24) (f2 : mF s' 27 = mF s 27) (hl : ∀ T i, 1 ≤ i → i ≤ gW g' T → legalE (gE g' T i)) : MI s' g' B' K W := by
  obtain ⟨r, n, b1, b2, b3, c1, c2, c3, m, l⟩ := h
  exact ⟨hr, hn, ht, hw, hv, f1.trans c1, f2.trans c2, c3, fun k hk => msg_mono (K := K) (fun x i hx _ => e x i (by omega) (by omega)) (fun i _ => e 23 i (by decide) (by decide)) (fun i _ => e 24 i (by decide) (by decide)) (Nat.le_refl _) hB hg hk (m k hk), hl⟩
theorem ni_same {s s' : MS} {g g' : GH} {m : Nat} (h : NI s g m) (e : ∀ x, x < 7 ∨ x = 8 ∨ x = 9 → mA s' x m = mA s x m) (e1 : ∀ q, q < 5 → mA s' 11 (5 * m + q) = mA s 11 (5 * m + q)) (e2 : ∀ q, q < 5 → mA s' 12 (5 * m + q) = mA s 12 (5 * m + q)) (eg : gV g' m (tmM s m) = gV g m (tmM s m)) : NI s' g' m := by
  have t : tmM s' m = tmM s m := by unfold tmM; rw [e 2 (by decide)]
  have el : lsM s' m = lsM s m := by unfold lsM; rw [e 5 (by decide)]
  have em : ∀ q, q < 5 → mtM s' m q = mtM s m q := fun q hq => by unfold mtM; rw [e2 q hq]
  obtain ⟨a1, a2, a3, a4, a5, a6, a7, a8, a9, a10⟩ := h
  unfold NI
  rw [t, el, e 1 (by decide), e 2 (by decide), e 3 (by decide), e 4 (by decide), e 5 (by decide), e 6 (by decide), e 8 (by decide), e 9 (by decide), eg]
  refine ⟨a1, a2, a3, a4, a5, a6, a7, a8, a9, fun q => ⟨(a10 q).1, fun w hw => ?_⟩⟩
  rw [e1 w hw, e2 w hw, em w hw]
  exact (a10 q).2 w hw
theorem tm_eq {s : MS} {n : Nat} (h : 0 ≤ mA s 2 n) : mA s 2 n = Int32.ofNat (tmM s n) := io_of h
theorem ls_eq {s : MS} {n : Nat} (h : 0 ≤ mA s 5 n) : mA s 5 n = Int32.ofNat (lsM s n) := io_of h
theorem bs_eq {s : MS} {n : Nat} (h : 0 ≤ mA s 4 n) : mA s 4 n = Int32.ofNat (bsM s n) := io_of h
/-- LAST is bounded by the leaders' logs -/
theorem mi_ls {s : MS} {g : GH} {B K W : Nat} (h : MI s g B K W) (v : Nat) : lsM s v ≤ B := by
  obtain ⟨⟨_, _, _, r4, _⟩, n, b1, b2, _⟩ := h
  by_cases e : lsM s v = 0
  · omega
  · exact Nat.le_trans (r4 v (lsM s v) (by omega) (Nat.le_refl _)).2.2.1 (b2 _)
theorem mi_down {s : MS} {g : GH} {B K W n : Nat} (h : MI s g B K W) (hn : n < 5) : MI (oD n s) g B K W := by
  obtain ⟨r, ni, b1, b2, b3, c1, c2, c3, m, l⟩ := id h
  have r1 := ri_weak r (rl' := up1 (rlM s) n 0) (vs' := vsM s) (mt' := mtM s) (fun w => by
    by_cases e : w = n
    · subst e; rw [up1_eq]; exact Or.inl ⟨by omega, by omega⟩
    · rw [up1_ne _ _ e]; exact Or.inr ⟨rfl, fun _ x _ q => Or.inl q, fun _ x _ => Or.inl (Nat.le_refl _)⟩)
  obtain ⟨_, _, _, _, _, _, _, _, _, _, _, _, _, r14⟩ := id r
  have r2 := ri_cm r1 (v := n) (k := bsM s n) (b := bsM s n) (Nat.le_trans (r14 n).2.1 (r14 n).1) (Nat.le_refl _) (cpt_le teM (r14 n).2.2 (r14 n).2.1)
  refine mi_step h (rm_of r2 (fun w => ?_) (fun w => ?_) (fun w x => ?_) (fun w => ?_) (fun w i => ?_) (fun w => ?_) (fun w => ?_) (fun w x => ?_)) (fun w hw => ?_) (fun v => ?_) b2 b3 (gle_refl g) (Nat.le_refl _) (fun x i h1 h2 => ?_) rfl rfl l
  · simp [oD, tmM, mA_uA]
  · by_cases e : w = n <;> simp [oD, rlM, mA_uA, up1, e]
  · simp [oD, vsM, mA_uA]
  · simp [oD, lsM, mA_uA]
  · funext j; simp [oD, lgM, mA_uA]
  · by_cases e : w = n <;> simp [oD, cmM, bsM, mA_uA, up1, e]
  · by_cases e : w = n <;> simp [oD, bsM, mA_uA, up1, e]
  · simp [oD, mtM, mA_uA]
  · by_cases e : w = n
    · subst e
      obtain ⟨a1, a2, a3, a4, a5, a6, a7, a8, a9, a10⟩ := ni w hw
      have t : tmM (oD w s) w = tmM s w := by simp [oD, tmM, mA_uA]
      unfold NI
      rw [t]
      simp [oD, mA_uA]
      exact ⟨a2, a3, a4, a5, a8⟩
    · exact ni_same (ni w hw) (fun x hx => by simp [oD, mA_uA, e]) (fun q hq => by simp [oD, mA_uA]) (fun q hq => by simp [oD, mA_uA]) rfl
  · have : tmM (oD n s) v = tmM s v := by simp [oD, tmM, mA_uA]
    rw [this]; exact b1 v
  · simp only [oD]; rw [mA_k _ _ _ _ (by omega), mA_k _ _ _ _ (by omega), mA_k _ _ _ _ (by omega)]
theorem mi_role0 {s : MS} {g : GH} {B K W n : Nat} (h : MI s g B K W) (hn : n < 5) : MI (uA s 8 n 0) g B K W := by
  obtain ⟨r, ni, b1, b2, b3, c1, c2, c3, m, l⟩ := id h
  have r1 := ri_weak r (rl' := up1 (rlM s) n 0) (vs' := vsM s) (mt' := mtM s) (fun w => by
    by_cases e : w = n
    · subst e; rw [up1_eq]; exact Or.inl ⟨by omega, by omega⟩
    · rw [up1_ne _ _ e]; exact Or.inr ⟨rfl, fun _ x _ q => Or.inl q, fun _ x _ => Or.inl (Nat.le_refl _)⟩)
  refine mi_step h (rm_of r1 (fun w => ?_) (fun w => ?_) (fun w x => ?_) (fun w => ?_) (fun w i => ?_) (fun w => ?_) (fun w => ?_) (fun w x => ?_)) (fun w hw => ?_) (fun v => ?_) b2 b3 (gle_refl g) (Nat.le_refl _) (fun x i h1 h2 => ?_) rfl rfl l
  · simp [tmM, mA_uA]
  · by_cases e : w = n <;> simp [rlM, mA_uA, up1, e]
  · simp [vsM, mA_uA]
  · simp [lsM, mA_uA]
  · funext j; simp [lgM, mA_uA]
  · simp [cmM, mA_uA]
  · simp [bsM, mA_uA]
  · simp [mtM, mA_uA]
  · by_cases e : w = n
    · subst e
      obtain ⟨a1, a2, a3, a4, a5, a6, a7, a8, a9, a10⟩ := ni w hw
      have t : tmM (uA s 8 w 0) w = tmM s w := by simp [tmM, mA_uA]
      unfold NI
      rw [t]
      simp [mA_uA]
      exact ⟨a1, a2, a3, a4, a5, a8⟩
    · exact ni_same (ni w hw) (fun x hx => by simp [mA_uA, e]) (fun q hq => by simp [mA_uA]) (fun q hq => by simp [mA_uA]) rfl
  · have : tmM (uA s 8 n 0) v = tmM s v := by simp [tmM, mA_uA]
    rw [this]; exact b1 v
  · rw [mA_k _ _ _ _ (by omega)]
def oT (n T : Nat) (s : MS) : MS := uA (uA (uA s 2 n (Int32.ofNat T)) 3 n (-1)) 8 n 0
theorem mi_bump {s : MS} {g : GH} {B K W n T : Nat} (h : MI s g B K W) (hn : n < 5) (hT : tmM s n < T) (hB : T ≤ B) (hB' : B < 100000) : MI (oT n T s) g B K W := by
  obtain ⟨r, ni, b1, b2, b3, c1, c2, c3, m, l⟩ := id h
  have r1 := ri_bump r (v := n) hT
  have t : ∀ w, tmM (oT n T s) w = up1 (tmM s) n T w := fun w => by
    by_cases e : w = n
    · subst e; simp [oT, tmM, mA_uA, up1, io_cl (show T < 2147483648 by omega)]
    · simp [oT, tmM, mA_uA, up1, e]
  refine mi_step h (rm_of r1 t (fun w => ?_) (fun w x => ?_) (fun w => ?_) (fun w i => ?_) (fun w => ?_) (fun w => ?_) (fun w x => ?_)) (fun w hw => ?_) (fun v => ?_) b2 b3 (gle_refl g) (Nat.le_refl _) (fun x i h1 h2 => ?_) rfl rfl l
  · by_cases e : w = n <;> simp [oT, rlM, mA_uA, up1, e]
  · simp [oT, vsM, mA_uA]
  · simp [oT, lsM, mA_uA]
  · funext j; simp [oT, lgM, mA_uA]
  · simp [oT, cmM, mA_uA]
  · simp [oT, bsM, mA_uA]
  · simp [oT, mtM, mA_uA]
  · by_cases e : w = n
    · subst e
      obtain ⟨a1, a2, a3, a4, a5, a6, a7, a8, a9, a10⟩ := ni w hw
      obtain ⟨⟨_, _, q1⟩, _⟩ := id r
      unfold NI
      rw [t, up1_eq, (q1 w T hT).1]
      simp [oT, mA_uA]
      exact ⟨a1, by rw [io_nl (by omega)]; trivial, a3, a4, a5⟩
    · exact ni_same (ni w hw) (fun x hx => by simp [oT, mA_uA, e]) (fun q hq => by simp [oT, mA_uA]) (fun q hq => by simp [oT, mA_uA]) rfl
  · rw [t]
    by_cases e : v = n
    · subst e; rw [up1_eq]; exact hB
    · rw [up1_ne _ _ e]; exact b1 v
  · simp only [oT]; rw [mA_k _ _ _ _ (by omega), mA_k _ _ _ _ (by omega), mA_k _ _ _ _ (by omega)]
