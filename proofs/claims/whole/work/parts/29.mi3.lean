/-! ===== what each act of the reference keeps, on ===== -/
theorem gle_of {a a' : Nat → Nat → Nat} {b b' : Nat → Nat → Nat → Nat → Int32} {c c' : Nat → Nat → Nat} {d d' : Nat → Nat} {e e' : Nat → Nat → Nat → Int32} {f f' : Nat → Nat} {k k' : Nat → Nat → Nat} (h : GX a b c d e f k a' b' c' d' e' f' k') : GLe ((a, b, c, d, e, f, k) : GH) ((a', b', c', d', e', f', k') : GH) := h
/-- a message comes -/
theorem mi_addmsg {s s' : MS} {g : GH} {B K W W' : Nat} (h : MI s g B K W) (e : ∀ x i, x < 15 → x ≠ 7 → x ≠ 10 → x ≠ 14 → mA s' x i = mA s x i) (e1 : ∀ x i, ((15 ≤ x ∧ x ≤ 22) ∨ x = 25) → i < K → mA s' x i = mA s x i) (e2 : ∀ i, i < K * 32 → mA s' 23 i = mA s 23 i) (e3 : ∀ i, i < W * 9608 → mA s' 24 i = mA s 24 i) (f1 : mF s' 24 = Int32.ofNat (K + 1)) (f2 : mF s' 27 = Int32.ofNat W') (hW : W ≤ W') (hW' : W' ≤ 60) (hm : MsgOK s' g W' B K) : MI s' g B (K + 1) W' := by
  obtain ⟨r, n, b1, b2, b3, c1, c2, c3, m, l⟩ := h
  have t : ∀ n, tmM s' n = tmM s n := fun n => by unfold tmM; rw [e 2 n (by decide) (by decide) (by decide) (by decide)]
  have el : ∀ n, lsM s' n = lsM s n := fun n => by unfold lsM; rw [e 5 n (by decide) (by decide) (by decide) (by decide)]
  have em : ∀ n m, mtM s' n m = mtM s n m := fun n m => by unfold mtM; rw [e 12 _ (by decide) (by decide) (by decide) (by decide)]
  refine ⟨rm_of r t (fun n => ?_) (fun n w => ?_) el (fun n i => ?_) (fun n => ?_) (fun n => ?_) em, fun v hv => ?_, fun v => by rw [t]; exact b1 v, b2, b3, f1, f2, hW', fun k hk => ?_, l⟩
  · unfold rlM; rw [e 8 n (by decide) (by decide) (by decide) (by decide)]
  · unfold vsM; rw [e 9 n (by decide) (by decide) (by decide) (by decide)]
  · unfold lgM; funext j; rw [e 13 _ (by decide) (by decide) (by decide) (by decide)]
  · unfold cmM; rw [e 1 n (by decide) (by decide) (by decide) (by decide), e 4 n (by decide) (by decide) (by decide) (by decide), e 6 n (by decide) (by decide) (by decide) (by decide)]
  · unfold bsM; rw [e 4 n (by decide) (by decide) (by decide) (by decide)]
  · exact ni_same (n v hv) (fun x hx => e x v (by omega) (by omega) (by omega) (by omega)) (fun q _ => e 11 _ (by decide) (by decide) (by decide) (by decide)) (fun q _ => e 12 _ (by decide) (by decide) (by decide) (by decide)) rfl
  · by_cases hk' : k < K
    · exact msg_mono (K := K) e1 e2 e3 hW (Nat.le_refl _) (gle_refl g) hk' (m k hk')
    · rw [show k = K by omega]; exact hm
theorem rm_0 {s : MS} {g : GH} (h : RM s g) (n : Nat) : lgM s n 0 = e0M := h.2.1.1 n
/-- terms in logs aren't negative -/
theorem mi_nn {s : MS} {g : GH} {B K W : Nat} (h : MI s g B K W) (n i : Nat) (hi : i ≤ lsM s n) : 0 ≤ lgM s n i 0 := by
  obtain ⟨r, _, _, _, _, _, _, _, _, l⟩ := h
  obtain ⟨_, _, _, r4, _⟩ := id r
  by_cases e : i = 0
  · subst e; rw [rm_0 r]; exact (by decide : (0 : Int32) ≤ 0)
  · obtain ⟨_, _, q3, q4⟩ := r4 n i (by omega) hi
    rw [q4 i (Nat.le_refl _)]
    exact (l _ i (by omega) q3).1
theorem te_eq {x : Nat → Int32} (h : 0 ≤ x 0) : x 0 = Int32.ofNat (teM x) := io_of h
theorem te_iff {x y : Nat → Int32} (hx : 0 ≤ x 0) (hy : 0 ≤ y 0) : x 0 = y 0 ↔ teM x = teM y := ⟨fun h => by unfold teM; rw [h], fun h => by rw [te_eq hx, te_eq hy, h]⟩
theorem rm_down {s : MS} {g : GH} {n : Nat} (r : RM s g) : RM (oD n s) g := by
  have r1 := ri_weak r (rl' := up1 (rlM s) n 0) (vs' := vsM s) (mt' := mtM s) (fun w => by
    by_cases e : w = n
    · subst e; rw [up1_eq]; exact Or.inl ⟨by omega, by omega⟩
    · rw [up1_ne _ _ e]; exact Or.inr ⟨rfl, fun _ x _ q => Or.inl q, fun _ x _ => Or.inl (Nat.le_refl _)⟩)
  obtain ⟨_, _, _, _, _, _, _, _, _, _, _, _, _, r14⟩ := id r
  have r2 := ri_cm r1 (v := n) (k := bsM s n) (b := bsM s n) (Nat.le_trans (r14 n).2.1 (r14 n).1) (Nat.le_refl _) (cpt_le teM (r14 n).2.2 (r14 n).2.1)
  refine rm_of r2 (fun w => ?_) (fun w => ?_) (fun w x => ?_) (fun w => ?_) (fun w i => ?_) (fun w => ?_) (fun w => ?_) (fun w x => ?_)
  · simp [oD, tmM, mA_uA]
  · by_cases e : w = n <;> simp [oD, rlM, mA_uA, up1, e]
  · simp [oD, vsM, mA_uA]
  · simp [oD, lsM, mA_uA]
  · funext j; simp [oD, lgM, mA_uA]
  · by_cases e : w = n <;> simp [oD, cmM, bsM, mA_uA, up1, e]
  · by_cases e : w = n <;> simp [oD, bsM, mA_uA, up1, e]
  · simp [oD, mtM, mA_uA]
/-- n stands for election -/
def oV (n : Nat) (s : MS) : MS := uA (uA (uA (uA s 2 n (Int32.ofNat (tmM s n + 1))) 3 n (Int32.ofNat n)) 8 n 1) 9 n (Int32.ofNat (2 ^ n))
def hV (n : Nat) (s : MS) (g : GH) : GH := (up2 (gV g) n (tmM s n + 1) (n + 1), up2 (gC g) n (tmM s n + 1) (lgM s n), up2 (gN g) n (tmM s n + 1) (lsM s n), gD g, gE g, gW g, gA g)
theorem p2_lt {n : Nat} (h : n < 5) : 2 ^ n < 32 := Nat.pow_lt_pow_right (by decide) h
theorem mi_stand {s : MS} {g : GH} {B K W n : Nat} (h : MI s g B K W) (hn : n < 5) (hu : mA s 1 n = 1) (hB : tmM s n + 1 ≤ B) (hB' : B < 100000) : MI (oV n s) (hV n s g) B K W ∧ GLe g (hV n s g) := by
  obtain ⟨r, ni, b1, b2, b3, c1, c2, c3, m, l⟩ := id h
  have r1 := ri_bump r (v := n) (T := tmM s n + 1) (by omega)
  have p2 := p2_lt hn
  obtain ⟨⟨_, _, q1⟩, _, _, q4, _⟩ := id r
  have t : ∀ w, tmM (oV n s) w = up1 (tmM s) n (tmM s n + 1) w := fun w => by
    by_cases e : w = n
    · subst e; rw [up1_eq]; show (mA (oV w s) 2 w).toNatClampNeg = _; simp [-Int32.ofNat_add, oV, mA_uA]; exact io_cl (by omega)
    · simp [oV, tmM, mA_uA, up1, e]
  have r2 := ri_self r1 (v := n) (by rw [up1_eq]; exact (q1 n _ (by omega)).1) (by rw [up1_eq]; omega) (fun i h1 h2 => by rw [up1_eq]; exact Nat.lt_succ_of_le (q4 n i h1 h2).1) (vs' := vsM (oV n s)) (fun w e => by funext x; simp [oV, vsM, mA_uA, e]) (fun w _ hx => by
    have : (2 ^ n).testBit w = true := by simpa [oV, vsM, mA_uA, io_cl (show 2 ^ n < 2147483648 by omega)] using hx
    rw [Nat.testBit_two_pow] at this
    simpa using (of_decide_eq_true this).symm)
  rw [up1_eq] at r2
  refine ⟨mi_step h (rm_of (g := hV n s g) r2.1 t (fun w => ?_) (fun w x => rfl) (fun w => ?_) (fun w i => ?_) (fun w => ?_) (fun w => ?_) (fun w x => ?_)) (fun w hw => ?_) (fun v => ?_) b2 (fun w T => ?_) r2.2 (Nat.le_refl _) (fun x i h1 h2 => ?_) rfl rfl l, r2.2⟩
  · by_cases e : w = n
    · subst e; rw [up1_eq]; simp [oV, rlM, mA_uA]
    · rw [up1_ne _ _ e, up1_ne _ _ e]; simp [oV, rlM, mA_uA, e]
  · simp [oV, lsM, mA_uA]
  · funext j; simp [oV, lgM, mA_uA]
  · simp [oV, cmM, mA_uA]
  · simp [oV, bsM, mA_uA]
  · simp [oV, mtM, mA_uA]
  · by_cases e : w = n
    · subst e
      obtain ⟨a1, a2, a3, a4, a5, a6, a7, a8, a9, a10⟩ := ni w hw
      unfold NI
      rw [t, up1_eq, show gV (hV w s g) w (tmM s w + 1) = w + 1 from up2_eq _ _ _ _]
      simp [-Int32.ofNat_add, oV, mA_uA, hu]
      exact ⟨by rw [io_nl (by omega)]; trivial, a3, a4, a5, ⟨2 ^ w, p2, rfl⟩⟩
    · exact ni_same (ni w hw) (fun x hx => by simp [oV, mA_uA, e]) (fun q hq => by simp [oV, mA_uA]) (fun q hq => by simp [oV, mA_uA]) (up2_n1 _ _ _ e)
  · rw [t]
    by_cases e : v = n
    · subst e; rw [up1_eq]; exact hB
    · rw [up1_ne _ _ e]; exact b1 v
  · show up2 (gV g) n (tmM s n + 1) (n + 1) w T ≤ 5
    unfold up2; split
    · omega
    · exact b3 w T
  · simp only [oV]; rw [mA_k _ _ _ _ (by omega), mA_k _ _ _ _ (by omega), mA_k _ _ _ _ (by omega), mA_k _ _ _ _ (by omega)]
/-- n votes for c -/
def hT (n c : Nat) (s : MS) (g : GH) : GH := (up2 (gV g) n (tmM s n) (c + 1), gC g, gN g, gD g, gE g, gW g, gA g)
theorem mi_vote {s : MS} {g : GH} {B K W n c : Nat} (h : MI s g B K W) (hn : n < 5) (hc5 : c < 5) (hv : gV g n (tmM s n) = 0) (hc : gV g c (tmM s n) = c + 1) (hu : teM (lgM s n (lsM s n)) < teM (gC g c (tmM s n) (gN g c (tmM s n))) ∨ teM (lgM s n (lsM s n)) = teM (gC g c (tmM s n) (gN g c (tmM s n))) ∧ lsM s n ≤ gN g c (tmM s n)) : MI (uA s 3 n (Int32.ofNat c)) (hT n c s g) B K W ∧ GLe g (hT n c s g) ∧ gV (hT n c s g) n (tmM s n) = c + 1 := by
  obtain ⟨r, ni, b1, b2, b3, c1, c2, c3, m, l⟩ := id h
  have r2 := ri_vote r (v := n) (c := c) hv hc hu
  have t : ∀ w, tmM (uA s 3 n (Int32.ofNat c)) w = tmM s w := fun w => by simp [tmM, mA_uA]
  refine ⟨mi_step h (rm_of (g := hT n c s g) r2.1 t (fun w => ?_) (fun w x => ?_) (fun w => ?_) (fun w i => ?_) (fun w => ?_) (fun w => ?_) (fun w x => ?_)) (fun w hw => ?_) (fun v => by rw [t]; exact b1 v) b2 (fun w T => ?_) r2.2 (Nat.le_refl _) (fun x i h1 h2 => mA_k _ _ _ _ (by omega)) rfl rfl l, r2.2, up2_eq _ _ _ _⟩
  · simp [rlM, mA_uA]
  · simp [vsM, mA_uA]
  · simp [lsM, mA_uA]
  · funext j; simp [lgM, mA_uA]
  · simp [cmM, mA_uA]
  · simp [bsM, mA_uA]
  · simp [mtM, mA_uA]
  · by_cases e : w = n
    · subst e
      obtain ⟨a1, a2, a3, a4, a5, a6, a7, a8, a9, a10⟩ := ni w hw
      unfold NI
      have em : ∀ q, mtM (uA s 3 w (Int32.ofNat c)) w q = mtM s w q := fun q => by simp [mtM, mA_uA]
      have el : lsM (uA s 3 w (Int32.ofNat c)) w = lsM s w := by simp [lsM, mA_uA]
      rw [t, show gV (hT w c s g) w (tmM s w) = c + 1 from up2_eq _ _ _ _, el]
      simp only [em]
      simp [-Int32.ofNat_add, mA_uA]
      exact ⟨a1, a2, a3, a4, a5, a6, a7, a9, a10⟩
    · exact ni_same (ni w hw) (fun x hx => by simp [mA_uA, e]) (fun q hq => by simp [mA_uA]) (fun q hq => by simp [mA_uA]) (up2_n1 _ _ _ e)
  · show up2 (gV g) n (tmM s n) (c + 1) w T ≤ 5
    unfold up2; split
    · omega
    · exact b3 w T
theorem mi_count {s : MS} {g : GH} {B K W n V : Nat} (h : MI s g B K W) (hn : n < 5) (hV : V < 32) (hb : ∀ w, w < 5 → V.testBit w = true → vsM s n w ∨ gV g w (tmM s n) = n + 1) : MI (uA s 9 n (Int32.ofNat V)) g B K W := by
  obtain ⟨r, ni, b1, b2, b3, c1, c2, c3, m, l⟩ := id h
  have r2 := ri_weak r (rl' := rlM s) (vs' := vsM (uA s 9 n (Int32.ofNat V))) (mt' := mtM s) (fun w => Or.inr ⟨rfl, fun _ x hx q => by
    by_cases e : w = n
    · subst e
      refine hb x hx ?_
      simpa [vsM, mA_uA, io_cl (show V < 2147483648 by omega)] using q
    · exact Or.inl (by simpa [vsM, mA_uA, e] using q), fun _ x _ => Or.inl (Nat.le_refl _)⟩)
  have t : ∀ w, tmM (uA s 9 n (Int32.ofNat V)) w = tmM s w := fun w => by simp [tmM, mA_uA]
  refine mi_step h (rm_of r2 t (fun w => ?_) (fun w x => rfl) (fun w => ?_) (fun w i => ?_) (fun w => ?_) (fun w => ?_) (fun w x => ?_)) (fun w hw => ?_) (fun v => by rw [t]; exact b1 v) b2 b3 (gle_refl g) (Nat.le_refl _) (fun x i h1 h2 => mA_k _ _ _ _ (by omega)) rfl rfl l
  · simp [rlM, mA_uA]
  · simp [lsM, mA_uA]
  · funext j; simp [lgM, mA_uA]
  · simp [cmM, mA_uA]
  · simp [bsM, mA_uA]
  · simp [mtM, mA_uA]
  · by_cases e : w = n
    · subst e
      obtain ⟨a1, a2, a3, a4, a5, a6, a7, a8, a9, a10⟩ := ni w hw
      unfold NI
      have em : ∀ q, mtM (uA s 9 w (Int32.ofNat V)) w q = mtM s w q := fun q => by simp [mtM, mA_uA]
      have el : lsM (uA s 9 w (Int32.ofNat V)) w = lsM s w := by simp [lsM, mA_uA]
      rw [t, el]
      simp only [em]
      simp [-Int32.ofNat_add, mA_uA]
      exact ⟨a1, a2, a3, a4, a5, a6, a7, a8, fun _ => ⟨V, hV, rfl⟩, a10⟩
    · exact ni_same (ni w hw) (fun x hx => by simp [mA_uA, e]) (fun q hq => by simp [mA_uA]) (fun q hq => by simp [mA_uA]) rfl
