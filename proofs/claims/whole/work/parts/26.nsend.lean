/-! ===== the reference sends, and lengthens logs ===== -/
theorem mA_oCx (dst d0 src s0 cnt : Nat) (s : MS) {x : Nat} (i : Nat) (h : x ≠ dst) : mA (oC dst d0 src s0 cnt s) x i = mA s x i := if_neg (fun q => h q.1)
theorem g_at {s : MS} (n i : Nat) : gX10_at (Int32.ofNat n) (Int32.ofNat i) s = some (Int32.ofNat ((n * 1201 + i) * 8), s) := by
  unfold gX10_at
  rw [io_m12, io_ad, io_m8]
theorem g_termAt {s : MS} {n i : Nat} (hn : n < 5) (hi : i ≤ 1200) : gX10_termAt (Int32.ofNat n) (Int32.ofNat i) s = some (mA s 13 ((n * 1201 + i) * 8), s) := by
  unfold gX10_termAt
  rw [g_at, bdm_some, ld_13 (by omega), bd_some]
theorem g_cp230 {s0 : MS} {n p k c : Nat} (hn : n < 5) (hk : k < 3000) (hc : mA s0 21 k = Int32.ofNat c) (h4 : c ≤ 4) (hp : p + c ≤ 1200) : ∀ (d i f : Nat), i + d = c * 8 → d < f → gX10_send_230 f (Int32.ofNat n) (Int32.ofNat p) (Int32.ofNat k) (Int32.ofNat i) (oC 23 (k * 4 * 8) 13 ((n * 1201 + (p + 1)) * 8) i s0) = some ((), oC 23 (k * 4 * 8) 13 ((n * 1201 + (p + 1)) * 8) (c * 8) s0) := by
  intro d
  induction d with
  | zero =>
    intro i f hi hf
    obtain ⟨f, rfl⟩ : ∃ g, f = g + 1 := ⟨f - 1, by omega⟩
    show gX10_send_230_body _ _ _ _ _ _ = _
    unfold gX10_send_230_body
    rw [ld_21 hk, bd_some, mA_oCx _ _ _ _ _ _ _ (by decide), hc, io_m8, if_pos (by rw [io_le (by omega) (by omega)]; omega)]
    have : i = c * 8 := by omega
    rw [this]
  | succ d ih =>
    intro i f hi hf
    obtain ⟨f, rfl⟩ : ∃ g, f = g + 1 := ⟨f - 1, by omega⟩
    show gX10_send_230_body _ _ _ _ _ _ = _
    unfold gX10_send_230_body
    rw [ld_21 hk, bd_some, mA_oCx _ _ _ _ _ _ _ (by decide), hc, io_m8, if_neg (by rw [io_le (by omega) (by omega)]; omega), io_a1, g_at, bdm_some, io_ad, ld_13 (by omega), bd_some, io_m4, io_m8, io_ad, st_23 (by omega), bd_some, io_a1, oC_s _ _ _ _ _ _ (by decide)]
    exact ih (i + 1) f (by omega) (by omega)
theorem g_cp93 {s0 : MS} {n w b : Nat} (hn : n < 5) (hw : w < 60) (hb : mA s0 4 n = Int32.ofNat b) (h4 : b ≤ 1200) (hs : mF s0 27 = Int32.ofNat w) : ∀ (d i f : Nat), i + d = (b + 1) * 8 → d < f → gX10_send_93 f (Int32.ofNat n) (Int32.ofNat i) (oC 24 (w * 1201 * 8) 13 ((n * 1201 + 0) * 8) i s0) = some ((), uF (oC 24 (w * 1201 * 8) 13 ((n * 1201 + 0) * 8) ((b + 1) * 8) s0) 27 (Int32.ofNat (w + 1))) := by
  intro d
  induction d with
  | zero =>
    intro i f hi hf
    obtain ⟨f, rfl⟩ : ∃ g, f = g + 1 := ⟨f - 1, by omega⟩
    show gX10_send_93_body _ _ _ _ = _
    unfold gX10_send_93_body rdF wrF
    rw [ld_4 hn, bd_some, mA_oCx _ _ _ _ _ _ _ (by decide), hb, io_a1, io_m8, if_pos (by rw [io_le (by omega) (by omega)]; omega), bd_some, bd_some, mF_oC, hs, io_a1]
    have : i = (b + 1) * 8 := by omega
    rw [this]
  | succ d ih =>
    intro i f hi hf
    obtain ⟨f, rfl⟩ : ∃ g, f = g + 1 := ⟨f - 1, by omega⟩
    show gX10_send_93_body _ _ _ _ = _
    unfold gX10_send_93_body rdF wrF
    rw [ld_4 hn, bd_some, mA_oCx _ _ _ _ _ _ _ (by decide), hb, io_a1, io_m8, if_neg (by rw [io_le (by omega) (by omega)]; omega), bd_some, show (0 : Int32) = Int32.ofNat 0 from rfl, g_at, bdm_some, io_ad, ld_13 (by omega), bd_some, mF_oC, hs, io_m12, io_m8, io_ad, st_24 (by omega), bd_some, io_a1, oC_s _ _ _ _ _ _ (by decide)]
    exact ih (i + 1) f (by omega) (by omega)
/-- leader n sends to m: p PREVIOUS, b BASE, l LAST, k messages so far, w snapshots so far -/
def oS (n m p b l k w : Nat) (s : MS) : MS :=
  if b ≤ p then oC 23 (k * 4 * 8) 13 ((n * 1201 + (p + 1)) * 8) (min 4 (l - p) * 8) (oM k 2 (Int32.ofNat n) (Int32.ofNat m) (mA s 2 n) (Int32.ofNat p) (mA s 13 ((n * 1201 + p) * 8)) (Int32.ofNat (min 4 (l - p))) (mA s 6 n) s)
  else if w = 60 then s
  else uF (oC 24 (w * 1201 * 8) 13 ((n * 1201 + 0) * 8) ((b + 1) * 8) (uA (oM k 5 (Int32.ofNat n) (Int32.ofNat m) (mA s 2 n) (Int32.ofNat b) (mA s 13 ((n * 1201 + b) * 8)) 0 0 s) 25 k (Int32.ofNat w))) 27 (Int32.ofNat (w + 1))
theorem LF_lt {d : Nat} (h : d < 100000) : d < LF := by unfold LF; omega
theorem oM_19 (k : Nat) (t n m T a b c d v : Int32) (s : MS) : uA (oM k t n m T a b c d s) 19 k v = oM k t n m T v b c d s := ms_ext (fun x i => by
  rw [mA_uA, mA_oM, mA_oM]
  by_cases e : i = k
  · by_cases e1 : x = 19
    · rw [if_pos ⟨e1, e⟩, if_pos e, e1]; rfl
    · rw [if_neg (fun q => e1 q.1), if_pos e, if_pos e]; simp only [e1, if_false]
  · rw [if_neg (fun q => e q.2), if_neg e, if_neg e]) (fun _ => rfl)
theorem oM_20 (k : Nat) (t n m T a b c d v : Int32) (s : MS) : uA (oM k t n m T a b c d s) 20 k v = oM k t n m T a v c d s := ms_ext (fun x i => by
  rw [mA_uA, mA_oM, mA_oM]
  by_cases e : i = k
  · by_cases e1 : x = 20
    · rw [if_pos ⟨e1, e⟩, if_pos e, e1]; rfl
    · rw [if_neg (fun q => e1 q.1), if_pos e, if_pos e]; simp only [e1, if_false]
  · rw [if_neg (fun q => e q.2), if_neg e, if_neg e]) (fun _ => rfl)
theorem oM_21 (k : Nat) (t n m T a b c d v : Int32) (s : MS) : uA (oM k t n m T a b c d s) 21 k v = oM k t n m T a b v d s := ms_ext (fun x i => by
  rw [mA_uA, mA_oM, mA_oM]
  by_cases e : i = k
  · by_cases e1 : x = 21
    · rw [if_pos ⟨e1, e⟩, if_pos e, e1]; rfl
    · rw [if_neg (fun q => e1 q.1), if_pos e, if_pos e]; simp only [e1, if_false]
  · rw [if_neg (fun q => e q.2), if_neg e, if_neg e]) (fun _ => rfl)
theorem oM_22 (k : Nat) (t n m T a b c d v : Int32) (s : MS) : uA (oM k t n m T a b c d s) 22 k v = oM k t n m T a b c v s := ms_ext (fun x i => by
  rw [mA_uA, mA_oM, mA_oM]
  by_cases e : i = k
  · by_cases e1 : x = 22
    · rw [if_pos ⟨e1, e⟩, if_pos e, e1]; rfl
    · rw [if_neg (fun q => e1 q.1), if_pos e, if_pos e]; simp only [e1, if_false]
  · rw [if_neg (fun q => e q.2), if_neg e, if_neg e]) (fun _ => rfl)
theorem g_send {s : MS} {n m p b l k w : Nat} (hn : n < 5) (hm : m < 5) (hx : mA s 11 (5 * n + m) = Int32.ofNat (p + 1)) (hb : mA s 4 n = Int32.ofNat b) (hl : mA s 5 n = Int32.ofNat l) (hc : mF s 24 = Int32.ofNat k) (hk : k < 3000) (hs : mF s 27 = Int32.ofNat w) (hw : w ≤ 60) (hp : p ≤ l) (h12 : l ≤ 1200) (hb12 : b ≤ l) : gX10_send (Int32.ofNat n) (Int32.ofNat m) s = some ((), oS n m p b l k w s) := by
  unfold gX10_send oS
  rw [io_m5, io_ad, ld_11 (by omega), bd_some, ld_4 hn, bd_some, hx, hb, io_s1 (by omega), Nat.add_sub_cancel]
  by_cases h : b ≤ p
  · rw [if_pos (by rw [io_le (by omega) (by omega)]; exact h), if_pos h, g_made hn hc hk, bdm_some, if_pos (by rw [io_nl (by omega)]; trivial), st_19 hk, bd_some, oM_19, g_termAt hn (by omega), bdm_some, st_20 hk, bd_some, oM_20, ld_5 hn, bd_some, mA_oMx _ _ _ _ _ _ _ _ _ _ _ (by decide), mA_oMx _ _ _ _ _ _ _ _ _ _ _ (by decide), hl, io_sb hp, show (4 : Int32) = Int32.ofNat 4 from rfl, io_mn (by omega) (by omega), st_21 hk, bd_some, oM_21, ld_6 hn, bd_some, mA_oMx _ _ _ _ _ _ _ _ _ _ _ (by decide), st_22 hk, bd_some, oM_22]
    have := g_cp230 (s0 := oM k 2 (Int32.ofNat n) (Int32.ofNat m) (mA s 2 n) (Int32.ofNat p) (mA s 13 ((n * 1201 + p) * 8)) (Int32.ofNat (min 4 (l - p))) (mA s 6 n) s) (p := p) (c := min 4 (l - p)) hn hk (by rw [mA_oM, if_pos rfl]; rfl) (by omega) (by omega) (min 4 (l - p) * 8) 0 LF (by omega) (LF_lt (by omega))
    rw [oC_0] at this
    exact this
  · rw [if_neg (by rw [io_le (by omega) (by omega)]; exact h), if_neg h]
    unfold rdF
    rw [bd_some, hs]
    by_cases h2 : w = 60
    · rw [if_pos (by rw [h2]; rfl), if_pos h2]
    · rw [if_neg (by rw [show (60 : Int32) = Int32.ofNat 60 from rfl, io_eq (by omega) (by omega)]; exact h2), if_neg h2, g_made hn hc hk, bdm_some, if_pos (by rw [io_nl (by omega)]; trivial), ld_4 hn, bd_some, mA_oMx _ _ _ _ _ _ _ _ _ _ _ (by decide), hb, st_19 hk, bd_some, oM_19, ld_4 hn, bd_some, mA_oMx _ _ _ _ _ _ _ _ _ _ _ (by decide), hb, g_termAt hn (by omega), bdm_some, st_20 hk, bd_some, oM_20, bd_some, mF_oM, if_neg (by decide), hs, st_25 hk, bd_some, mA_oMx _ _ _ _ _ _ _ _ _ _ _ (by decide)]
      have := g_cp93 (s0 := uA (oM k 5 (Int32.ofNat n) (Int32.ofNat m) (mA s 2 n) (Int32.ofNat b) (mA s 13 ((n * 1201 + b) * 8)) 0 0 s) 25 k (Int32.ofNat w)) (w := w) (b := b) hn (by omega) (by rw [mA_k _ _ _ _ (by decide), mA_oMx _ _ _ _ _ _ _ _ _ _ _ (by decide)]; exact hb) (by omega) (by rw [mF_uA, mF_oM, if_neg (by decide)]; exact hs) ((b + 1) * 8) 0 LF (by omega) (LF_lt (by omega))
      rw [oC_0] at this
      exact this
/-! an entry comes -/
theorem g_cp13 {s0 : MS} {n idx x pl : Nat} (hn : n < 5) (hi : idx ≤ 1200) (hx : (x = 26 ∧ pl = 0) ∨ (x = 23 ∧ pl + 8 ≤ 96000)) : ∀ (d i f : Nat), i + d = 8 → d < f → gX10_comes_13 f (Int32.ofNat n) (Int32.ofNat idx) x (Int32.ofNat pl) (Int32.ofNat i) (oC 13 ((n * 1201 + idx) * 8) x pl i s0) = some (1, oE n idx (fun j => mA s0 x (pl + j)) s0) := by
  have hx13 : 13 ≠ x := by rcases hx with h | h <;> omega
  intro d
  induction d with
  | zero =>
    intro i f h0 hf
    obtain ⟨f, rfl⟩ : ∃ g, f = g + 1 := ⟨f - 1, by omega⟩
    show gX10_comes_13_body _ _ _ _ _ _ _ = _
    unfold gX10_comes_13_body
    have e : i = 8 := by omega
    subst e
    rw [if_pos (by decide), st_5 hn, bd_some]
    refine congrArg some (Prod.ext rfl (ms_ext (fun y j => ?_) (fun f => rfl)))
    rw [mA_uA, mA_oC, mA_oE]
    by_cases e1 : y = 13
    · subst e1
      rw [if_neg (show ¬ (13 = 5 ∧ j = n) by omega)]
      by_cases e2 : (n * 1201 + idx) * 8 ≤ j ∧ j < (n * 1201 + idx) * 8 + 8
      · rw [if_pos ⟨rfl, e2⟩, if_pos ⟨rfl, e2⟩]
      · rw [if_neg (fun q => e2 q.2), if_neg (fun q => e2 q.2), if_neg (show ¬ (13 = 5 ∧ j = n) by omega)]
    · rw [if_neg (show ¬ (y = 13 ∧ (n * 1201 + idx) * 8 ≤ j ∧ j < (n * 1201 + idx) * 8 + 8) from fun q => e1 q.1), if_neg (show ¬ (y = 13 ∧ (n * 1201 + idx) * 8 ≤ j ∧ j < (n * 1201 + idx) * 8 + 8) from fun q => e1 q.1)]
  | succ d ih =>
    intro i f h0 hf
    obtain ⟨f, rfl⟩ : ∃ g, f = g + 1 := ⟨f - 1, by omega⟩
    show gX10_comes_13_body _ _ _ _ _ _ _ = _
    unfold gX10_comes_13_body
    have e : ldA (oC 13 ((n * 1201 + idx) * 8) x pl i s0) 11 x (Int32.ofNat (pl + i)) = some (mA (oC 13 ((n * 1201 + idx) * 8) x pl i s0) x (pl + i)) := by
      rcases hx with ⟨h, h'⟩ | ⟨h, h'⟩
      · subst h h'; exact ld_26 (by omega)
      · subst h; exact ld_23 (by omega)
    rw [if_neg (by rw [show (8 : Int32) = Int32.ofNat 8 from rfl, io_le (by omega) (by omega)]; omega), g_at, bdm_some, io_ad, e, bd_some, io_ad, st_13 (by omega), bd_some, io_a1, oC_s _ _ _ _ _ _ hx13]
    exact ih (i + 1) f (by omega) (by omega)
theorem g_comes {s : MS} {n idx x pl : Nat} (hn : n < 5) (hi : idx ≤ 1200) (hx : (x = 26 ∧ pl = 0) ∨ (x = 23 ∧ pl + 8 ≤ 96000)) : gX10_comes (Int32.ofNat n) (Int32.ofNat idx) x (Int32.ofNat pl) s = if mA s 10 n = 0 then some (0, oD n s) else some (1, oE n idx (fun j => mA (oP n s) x (pl + j)) (oP n s)) := by
  unfold gX10_comes
  rw [g_record hn]
  by_cases h : mA s 10 n = 0
  · rw [if_pos h, if_pos h]; rfl
  · rw [if_neg h, if_neg h, bdm_some, if_neg (by decide)]
    have := g_cp13 (s0 := oP n s) hn hi hx 8 0 LF (by omega) (LF_lt (by omega))
    rw [oC_0] at this
    exact this
