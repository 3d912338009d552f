theorem g_w67 {n : Nat} {y : Int32} : ∀ (d i f : Nat) (s : MS), i + d = 64 → d < f → ∃ s', gX10_work_67 f (Int32.ofNat n) y (Int32.ofNat i) s = gX10_work_123 LF (Int32.ofNat n) y (Int32.ofNat 0) s' ∧ (∀ x j, mA s' x j = if 27 ≤ x ∧ x ≤ 31 ∧ i ≤ j ∧ j < 64 then 0 else mA s x j) ∧ ∀ k, mF s' k = mF s k := by
  intro d
  induction d with
  | zero =>
    intro i f s h0 hf
    obtain ⟨f, rfl⟩ : ∃ g, f = g + 1 := ⟨f - 1, by omega⟩
    refine ⟨s, ?_, fun x j => by rw [if_neg (by omega)], fun _ => rfl⟩
    have e0 : gX10_work_67 (f + 1) (Int32.ofNat n) y (Int32.ofNat i) s = gX10_work_67_body (gX10_work_67 f) (Int32.ofNat n) y (Int32.ofNat i) s := rfl
    rw [e0]
    unfold gX10_work_67_body
    rw [if_pos (by rw [show (64 : Int32) = Int32.ofNat 64 from rfl, io_le (by omega) (by omega)]; omega), show (0 : Int32) = Int32.ofNat 0 from rfl]
  | succ d ih =>
    intro i f s h0 hf
    obtain ⟨f, rfl⟩ : ∃ g, f = g + 1 := ⟨f - 1, by omega⟩
    obtain ⟨s', g1, g2, g3⟩ := ih (i + 1) f (pGo s i) (by omega) (by omega)
    refine ⟨s', ?_, fun x j => ?_, fun k => (g3 k).trans go_f⟩
    · have e0 : gX10_work_67 (f + 1) (Int32.ofNat n) y (Int32.ofNat i) s = gX10_work_67_body (gX10_work_67 f) (Int32.ofNat n) y (Int32.ofNat i) s := rfl
      rw [e0, ← g1]
      unfold gX10_work_67_body
      have i64 : i < 64 := by omega
      rw [if_neg (by rw [show (64 : Int32) = Int32.ofNat 64 from rfl, io_le (by omega) (by omega)]; omega), st_27 i64, bd_some, st_28 i64, bd_some, st_29 i64, bd_some, st_30 i64, bd_some, st_31 i64, bd_some, io_a1]
      rfl
    · rw [g2]
      by_cases z : 27 ≤ x ∧ x ≤ 31 ∧ i + 1 ≤ j ∧ j < 64
      · rw [if_pos z, if_pos (by omega)]
      · rw [if_neg z]
        by_cases z2 : 27 ≤ x ∧ x ≤ 31 ∧ j = i
        · rw [z2.2.2, go_k ⟨z2.1, z2.2.1⟩, if_pos (by omega)]
        · rw [go_x (by omega), if_neg (by omega)]
theorem g_w123 {n : Nat} {y : Int32} : ∀ (d i f : Nat) (s : MS), i + d = 9 → d < f → ∃ s', gX10_work_123 f (Int32.ofNat n) y (Int32.ofNat i) s = gX10_work_169 (Int32.ofNat n) y s' ∧ (∀ x j, mA s' x j = if x = 32 ∧ i ≤ j ∧ j < 9 then 0 else mA s x j) ∧ mF s' 40 = 1 ∧ mF s' 41 = 0 ∧ mF s' 42 = 0 ∧ mF s' 47 = 0 ∧ mF s' 50 = 0 ∧ ∀ k, k ≠ 40 → k ≠ 41 → k ≠ 42 → k ≠ 47 → k ≠ 50 → mF s' k = mF s k := by
  intro d
  induction d with
  | zero =>
    intro i f s h0 hf
    obtain ⟨f, rfl⟩ : ∃ g, f = g + 1 := ⟨f - 1, by omega⟩
    refine ⟨uF (uF (uF (uF (uF s 40 1) 41 0) 42 0) 47 0) 50 0, ?_, fun x j => by rw [if_neg (by omega)]; rfl, ?_, ?_, ?_, ?_, ?_, fun k h1 h2 h3 h4 h5 => ?_⟩
    · have e0 : gX10_work_123 (f + 1) (Int32.ofNat n) y (Int32.ofNat i) s = gX10_work_123_body (gX10_work_123 f) (Int32.ofNat n) y (Int32.ofNat i) s := rfl
      rw [e0]
      unfold gX10_work_123_body wrF
      rw [if_pos (by rw [show (9 : Int32) = Int32.ofNat 9 from rfl, io_le (by omega) (by omega)]; omega), bd_some, bd_some, bd_some, bd_some, bd_some]
    all_goals simp [mF_uF]
    simp [h1, h2, h3, h4, h5]
  | succ d ih =>
    intro i f s h0 hf
    obtain ⟨f, rfl⟩ : ∃ g, f = g + 1 := ⟨f - 1, by omega⟩
    obtain ⟨s', g1, g2, g3⟩ := ih (i + 1) f (uA s 32 i 0) (by omega) (by omega)
    refine ⟨s', ?_, fun x j => ?_, g3.1, g3.2.1, g3.2.2.1, g3.2.2.2.1, g3.2.2.2.2.1, g3.2.2.2.2.2⟩
    · have e0 : gX10_work_123 (f + 1) (Int32.ofNat n) y (Int32.ofNat i) s = gX10_work_123_body (gX10_work_123 f) (Int32.ofNat n) y (Int32.ofNat i) s := rfl
      rw [e0, ← g1]
      unfold gX10_work_123_body
      rw [if_neg (by rw [show (9 : Int32) = Int32.ofNat 9 from rfl, io_le (by omega) (by omega)]; omega), s0_32 (by omega), bd_some, io_a1]
    · rw [g2, mA_uA]
      by_cases z : x = 32 ∧ i + 1 ≤ j ∧ j < 9
      · rw [if_pos z, if_pos (by omega)]
      · rw [if_neg z]
        by_cases z2 : x = 32 ∧ j = i
        · rw [if_pos z2, if_pos (by omega)]
        · rw [if_neg z2, if_neg (by omega)]
/-- what the reference has worked off is committed -/
def CA (s : MS) (g : GH) : Prop := mF s 49 = -1 ∨ ∃ x T k, CPM g x T k ∧ mF s 50 = Int32.ofNat k ∧ SM s (rp x k) ∧ ∀ i, 1 ≤ i → i ≤ k → mA s 38 i = rr x i
theorem sm_ext {s s' p : MS} (e : ∀ x i, 27 ≤ x → x ≤ 37 → mA s' x i = mA s x i) (f : ∀ k, k = 40 ∨ k = 41 ∨ k = 42 ∨ k = 47 → mF s' k = mF s k) (h : SM s p) : SM s' p := by
  obtain ⟨a1, a2, a3, a4, a5, a6, a7, a8⟩ := h
  refine ⟨(f 40 (by decide)).trans a1, (f 41 (by decide)).trans a2, (f 42 (by decide)).trans a3, (f 47 (by decide)).trans a4, fun k hk => ?_, fun l hl => (e 32 l (by decide) (by decide)).trans (a6 l hl), fun l hl q => (e 33 l (by decide) (by decide)).trans (a7 l hl q), fun i hi => ?_⟩
  · rw [e 27 k (by decide) (by decide), e 28 k (by decide) (by decide), e 29 k (by decide) (by decide), e 30 k (by decide) (by decide), e 31 k (by decide) (by decide)]; exact a5 k hk
  · rw [e 34 i (by decide) (by decide), e 35 i (by decide) (by decide), e 36 i (by decide) (by decide), e 37 i (by decide) (by decide)]; exact a8 i hi
theorem ca_ext {s s' : MS} {g g' : GH} (gl : GLe g g') (e : ∀ x i, 27 ≤ x → mA s' x i = mA s x i) (f : ∀ k, 40 ≤ k → mF s' k = mF s k) (h : CA s g) : CA s' g' := by
  rcases h with z | ⟨x, T, k, c1, c2, c3, c4⟩
  · exact Or.inl ((f 49 (by decide)).trans z)
  · exact Or.inr ⟨x, T, k, cpm_mono gl (Nat.le_refl _) (ag_refl _ _) c1, (f 50 (by decide)).trans c2, sm_ext (fun x i h1 _ => e x i h1) (fun k hk => f k (by omega)) c3, fun i h1 h2 => (e 38 i (by decide)).trans (c4 i h1 h2)⟩
section
variable {s : MS} {g : GH} {B K W n : Nat}
theorem mi_cm0 (mi : MI s g B K W) (hn : n < 5) : (if mA s 1 n = 0 then mA s 4 n else mA s 6 n) = Int32.ofNat (cmM s n) := by
  by_cases z : mA s 1 n = 0
  · rw [if_pos z, mi_4 mi hn]; unfold cmM bsM; rw [if_pos z]
  · have u : mA s 1 n = 1 := (mi.2.1 n hn).1.resolve_left z
    rw [if_neg z, mi_6 mi hn u]
theorem g_work (mi : MI s g B K W) (ca : CA s g) (hn : n < 5) (hB : B ≤ 200) : ∃ s', gX10_work (Int32.ofNat n) s = some ((), s') ∧ SM s' (rp (lgM s n) (cmM s n)) ∧ (∀ i, 1 ≤ i → i ≤ cmM s n → mA s' 38 i = rr (lgM s n) i) ∧ CA s' g ∧ (∀ y i, y < 27 → mA s' y i = mA s y i) ∧ ∀ k, k < 40 → mF s' k = mF s k := by
  have lsB := mi_ls mi n
  obtain ⟨c1, c2, c3⟩ := mi_cm mi n
  have hl : ∀ j, 1 ≤ j → j ≤ cmM s n → legalE (lgM s n j) := fun j h1 h2 => mi_legal mi h1 (by omega)
  -- from a state whose rows are the store behind k entries
  have go : ∀ (s1 : MS) (k : Nat), k ≤ cmM s n → SM s1 (rp (lgM s n) k) → mF s1 50 = Int32.ofNat k → (∀ i, 1 ≤ i → i ≤ k → mA s1 38 i = rr (lgM s n) i) → (∀ y i, y < 27 → mA s1 y i = mA s y i) → (∀ k, k < 40 → mF s1 k = mF s k) → ∃ s', gX10_work_169 (Int32.ofNat n) (Int32.ofNat (cmM s n)) s1 = some ((), s') ∧ SM s' (rp (lgM s n) (cmM s n)) ∧ (∀ i, 1 ≤ i → i ≤ cmM s n → mA s' 38 i = rr (lgM s n) i) ∧ CA s' g ∧ (∀ y i, y < 27 → mA s' y i = mA s y i) ∧ ∀ k, k < 40 → mF s' k = mF s k := by
    intro s1 k hk h1 h2 h3 h4 h5
    obtain ⟨s2, hs2⟩ : ∃ s2, s2 = uF (uF s1 49 (Int32.ofNat n)) 51 (mA s1 14 n) := ⟨_, rfl⟩
    have sm2 : SM s2 (rp (lgM s n) k) := by rw [hs2]; exact sm_ext (fun _ _ _ _ => rfl) (fun k hk => by rw [mF_n _ _ (by omega), mF_n _ _ (by omega)]) h1
    obtain ⟨s', g1, g2, g3, g4, g5, g6⟩ := g_184 (x := lgM s n) (idx := cmM s n) hn (by omega) hl (cmM s n - k) k LF s2 (by omega) (LF_lt (by omega)) sm2 (by rw [hs2, mF_n _ _ (by decide), mF_n _ _ (by decide)]; exact h2) (fun i e1 e2 => by rw [hs2]; exact h3 i e1 e2) (fun i e1 e2 => by unfold lgM; funext y; rw [hs2]; show (if _ then mA s1 13 _ else 0) = _; rw [h4 13 _ (by decide)])
    refine ⟨s', ?_, g2, g4, Or.inr ⟨lgM s n, tmM s n, cmM s n, c3, g3, g2, g4⟩, fun y i hy => (g5 y i hy).trans (by rw [hs2]; exact h4 y i hy), fun k hk => (g6 k (by omega)).trans (by rw [hs2, mF_n _ _ (by omega), mF_n _ _ (by omega)]; exact h5 k hk)⟩
    unfold gX10_work_169 wrF
    have e14 : ldA (uF s1 49 (Int32.ofNat n)) 11 14 (Int32.ofNat n) = some (mA s1 14 n) := ld_14 hn
    rw [bd_some, e14, bd_some, bd_some, ← hs2]; exact g1
  have reset : ∃ s', gX10_work_58 (Int32.ofNat n) (Int32.ofNat (cmM s n)) s = some ((), s') ∧ SM s' (rp (lgM s n) (cmM s n)) ∧ (∀ i, 1 ≤ i → i ≤ cmM s n → mA s' 38 i = rr (lgM s n) i) ∧ CA s' g ∧ (∀ y i, y < 27 → mA s' y i = mA s y i) ∧ ∀ k, k < 40 → mF s' k = mF s k := by
    obtain ⟨s1, a1, a2, a3⟩ := g_w67 (n := n) (y := Int32.ofNat (cmM s n)) 64 0 LF s rfl (LF_lt (by decide))
    obtain ⟨s2, b1, b2, b3, b4, b5, b6, b7, b8⟩ := g_w123 (n := n) (y := Int32.ofNat (cmM s n)) 9 0 LF s1 rfl (LF_lt (by decide))
    have e2 : ∀ x j, mA s2 x j = if x = 32 ∧ 0 ≤ j ∧ j < 9 then 0 else if 27 ≤ x ∧ x ≤ 31 ∧ 0 ≤ j ∧ j < 64 then 0 else mA s x j := fun x j => by rw [b2, a2]
    obtain ⟨s', g1, g2⟩ := go s2 0 (by omega) ⟨b3, b4, b5, b6, fun k hk => by rw [e2, e2, e2, e2, e2]; simp [hk]; exact ⟨rfl, rfl, rfl, rfl, rfl⟩, fun l hl => by rw [e2]; simp [hl]; rfl, fun l hl q => absurd (show (0 : Int32) = 1 from q) (by decide), fun i hi => absurd hi (Nat.not_lt_zero _)⟩ b7 (fun i h1 h2 => by omega) (fun y i hy => by rw [e2, if_neg (by omega), if_neg (by omega)]) (fun k hk => by rw [b8 k (by omega) (by omega) (by omega) (by omega) (by omega), a3])
    refine ⟨s', ?_, g2⟩
    unfold gX10_work_58 gX10_work_59
    rw [if_pos rfl, show (0 : Int32) = Int32.ofNat 0 from rfl, a1, b1]; exact g1
  have w24 : ∃ s', gX10_work_24 (Int32.ofNat n) (Int32.ofNat (cmM s n)) s = some ((), s') ∧ SM s' (rp (lgM s n) (cmM s n)) ∧ (∀ i, 1 ≤ i → i ≤ cmM s n → mA s' 38 i = rr (lgM s n) i) ∧ CA s' g ∧ (∀ y i, y < 27 → mA s' y i = mA s y i) ∧ ∀ k, k < 40 → mF s' k = mF s k := by
    unfold gX10_work_24 rdF
    rw [bd_some]
    by_cases z : mF s 49 = Int32.ofNat n
    · rw [if_pos z, bd_some, ld_14 hn, bd_some]
      by_cases z2 : mF s 51 = mA s 14 n
      · rw [if_pos z2, bd_some]
        by_cases z3 : Int32.ofNat (cmM s n) < mF s 50
        · rw [if_pos z3]; exact reset
        · rw [if_neg z3]
          rcases ca with q | ⟨x, T, k, k1, k2, k3, k4⟩
          · rw [z] at q
            have : n = 0 ∨ n = 1 ∨ n = 2 ∨ n = 3 ∨ n = 4 := by omega
            rcases this with h | h | h | h | h <;> rw [h] at q <;> exact absurd q (by decide)
          · have kB := cp_le mi k1
            have kc : k ≤ cmM s n := by
              rw [k2, io_lt (by omega) (by omega)] at z3; omega
            have ag : ∀ j, 1 ≤ j → j ≤ k → x j = lgM s n j := fun j h1 h2 => mi_safe mi k1 c3 h1 h2 (by omega)
            unfold gX10_work_59
            rw [if_neg (by decide)]
            exact go s k kc (by rw [← rp_ag k ag]; exact k3) k2 (fun i h1 h2 => by rw [← rr_ag (fun j e1 e2 => ag j e1 (by omega))]; exact k4 i h1 h2) (fun _ _ _ => rfl) (fun _ _ => rfl)
      · rw [if_neg z2]; exact reset
    · rw [if_neg z]; exact reset
  have m0 := mi_cm0 mi hn
  unfold gX10_work
  rw [ld_1 hn, bd_some]
  by_cases u : mA s 1 n = 0
  · rw [if_pos u] at m0 ⊢
    rw [ld_4 hn, bd_some, m0]; exact w24
  · rw [if_neg u] at m0 ⊢
    rw [ld_6 hn, bd_some, m0]; exact w24
end
