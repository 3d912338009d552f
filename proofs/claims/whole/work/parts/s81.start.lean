/-! ===== the start: objects as their constructors leave them ===== -/
theorem hK_nA (h : Hp) (t n a : Nat) : hK (nA h t n) a = if a = hZ h then some (t, n) else hK h a := rfl
theorem hI_nA (h : Hp) (t n f a : Nat) : hI (nA h t n) f a = hI h f a := rfl
theorem hR_nA (h : Hp) (t n f a : Nat) : hR (nA h t n) f a = hR h f a := rfl
theorem aI_nA (h : Hp) (t n a i : Nat) : aI (nA h t n) a i = if a = hZ h then 0 else aI h a i := rfl
theorem aR_nA (h : Hp) (t n a i : Nat) : aR (nA h t n) a i = if a = hZ h then none else aR h a i := rfl
theorem hZ_nA (h : Hp) (t n : Nat) : hZ (nA h t n) = hZ h + 1 := rfl
theorem aI_nO (h : Hp) (c a i : Nat) : aI (nO h c) a i = aI h a i := rfl
theorem mkA_lit {h : Hp} {t n : Nat} (hn : n < 2147483648) : mkA h t (Int32.ofNat n) n = some (nA h t n) := by
  unfold mkA
  rw [if_pos ⟨by rw [io_nn hn]; exact id, by rw [io_cl hn]; exact Nat.le_refl _⟩, io_cl hn]
theorem sc_zero {t : SS} (h0 : tF t 0 = 1) (hF : ∀ f, f ≠ 0 → tF t f = 0) (hA : ∀ k i, 2 ≤ k → k ≤ 8 → tA t k i = 0) (hG : tG t 10 = 0) : SC t pZero := by
  have z1 : ¬ (0 : Int32) = 1 := by decide
  refine ⟨Nat.zero_le _, h0, hF 1 (by decide), hF 4 (by decide), fun k hk => ⟨hA 2 k (by decide) (by decide), hA 3 k (by decide) (by decide), hA 4 k (by decide) (by decide), hA 5 k (by decide) (by decide), hA 6 k (by decide) (by decide)⟩, ⟨0, by decide, hF 12 (by decide), fun l hl => ⟨fun q => absurd q (by rw [Nat.zero_testBit]; decide), fun q => absurd (show (0 : Int32) = 1 from q) z1⟩⟩, fun l _ _ q => absurd (show (0 : Int32) = 1 from q) z1, ⟨hF 3 (by decide), fun i q => absurd q (Nat.not_lt_zero _)⟩, 0, hG, by decide, fun k hk => ⟨⟨fun q => absurd q (by rw [Nat.zero_testBit]; decide), fun q => absurd (show (0 : Int32) = 1 from q) z1⟩, hA 7 k (by decide) (by decide)⟩⟩
theorem i_nS (h : Hp) (g : Nat) : hI (nS h) g (hZ h) = if g = gq 7 0 then 1 else 0 := by
  show hI (nS1 h) g (hZ h) = _
  unfold nS1
  rw [hI_sI, hI_nO, if_pos rfl]
  by_cases z : g = gq 7 0
  · rw [if_pos ⟨z, rfl⟩, if_pos z]
  · rw [if_neg (fun q => z q.1), if_neg z]
theorem l_nS (h : Hp) (g : Nat) : hL (nS h) g (hZ h) = 0 := by
  show (if hZ h = hZ h then (0 : Int64) else hL h g (hZ h)) = 0
  rw [if_pos rfl]
theorem a_nS (h : Hp) (k i : Nat) (h2 : 2 ≤ k) (h8 : k ≤ 8) : aI (nS h) (hZ h + k) i = 0 := by
  unfold nS
  rw [nw_aI, z8]
  by_cases e8 : k = 8
  · rw [if_pos (by omega)]
  rw [if_neg (by omega)]
  unfold nS8
  rw [nw_aI, z7]
  by_cases e7 : k = 7
  · rw [if_pos (by omega)]
  rw [if_neg (by omega)]
  unfold nS7
  rw [nw_aI, z6]
  by_cases e6 : k = 6
  · rw [if_pos (by omega)]
  rw [if_neg (by omega)]
  unfold nS6
  rw [nw_aI, z5]
  by_cases e5 : k = 5
  · rw [if_pos (by omega)]
  rw [if_neg (by omega)]
  unfold nS5
  rw [nw_aI, z4]
  by_cases e4 : k = 4
  · rw [if_pos (by omega)]
  rw [if_neg (by omega)]
  unfold nS4
  rw [nw_aI, z3]
  by_cases e3 : k = 3
  · rw [if_pos (by omega)]
  rw [if_neg (by omega)]
  unfold nS3
  rw [nw_aI, z2, if_pos (by omega)]
theorem sc_rd0 {q : Nat} {h : Hp} (h0 : hI h (gq 7 0) q = 1) (hF : ∀ f, f ≠ 0 → hI h (gq 7 f) q = 0) (hA : ∀ k i, 2 ≤ k → k ≤ 8 → aI h (q + k) i = 0) (hG : hL h (gq 7 10) q = 0) : SC (rdS q h) pZero := sc_zero h0 hF hA hG
theorem sc_nS (h : Hp) : SC (rdS (hZ h) (nS h)) pZero := by
  have h0 := (i_nS h (gq 7 0)).trans (if_pos rfl)
  have hF : ∀ f, f ≠ 0 → hI (nS h) (gq 7 f) (hZ h) = 0 := fun f hf => (i_nS h (gq 7 f)).trans (if_neg (fun q => hf (by unfold gq at q; omega)))
  have hA := a_nS h
  have hG := l_nS h (gq 7 10)
  generalize nS h = h' at *
  exact sc_rd0 h0 hF hA hG
