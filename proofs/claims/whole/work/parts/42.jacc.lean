/-! ===== an ACCEPT: what two others have, in the class and in the reference ===== -/
def hs2 (mt : Nat → Nat) (n : Nat) : Nat → Nat → Nat → Nat → Nat
  | 0, _, _, se => se
  | d + 1, j, hi, se => if j = n then hs2 mt n d (j + 1) hi se else if hi < mt j then hs2 mt n d (j + 1) (mt j) hi else if se < mt j then hs2 mt n d (j + 1) hi (mt j) else hs2 mt n d (j + 1) hi se
def ct2 (mt : Nat → Nat) (n i : Nat) : Nat → Nat → Nat → Nat
  | 0, _, c => c
  | d + 1, j, c => if j = n then ct2 mt n i d (j + 1) c else if mt j < i then ct2 mt n i d (j + 1) c else ct2 mt n i d (j + 1) (c + 1)
theorem hs_ct {mt : Nat → Nat} {n i : Nat} (hi1 : 1 ≤ i) : ∀ (d j hi se c : Nat), se ≤ hi → (1 ≤ c ↔ i ≤ hi) → (2 ≤ c ↔ i ≤ se) → (2 ≤ ct2 mt n i d j c ↔ i ≤ hs2 mt n d j hi se)
  | 0, _, _, _, _, _, _, h2 => h2
  | d + 1, j, hi, se, c, h0, h1, h2 => by
    unfold ct2 hs2
    by_cases e : j = n
    · rw [if_pos e, if_pos e]; exact hs_ct hi1 d (j + 1) hi se c h0 h1 h2
    · rw [if_neg e, if_neg e]
      by_cases z1 : hi < mt j
      · rw [if_pos z1]
        by_cases z : mt j < i
        · rw [if_pos z]; exact hs_ct hi1 d (j + 1) (mt j) hi c (by omega) (by omega) (by omega)
        · rw [if_neg z]; exact hs_ct hi1 d (j + 1) (mt j) hi (c + 1) (by omega) (by omega) (by omega)
      · rw [if_neg z1]
        by_cases z2 : se < mt j
        · rw [if_pos z2]
          by_cases z : mt j < i
          · rw [if_pos z]; exact hs_ct hi1 d (j + 1) hi (mt j) c (by omega) (by omega) (by omega)
          · rw [if_neg z]; exact hs_ct hi1 d (j + 1) hi (mt j) (c + 1) (by omega) (by omega) (by omega)
        · rw [if_neg z2]
          by_cases z : mt j < i
          · rw [if_pos z]; exact hs_ct hi1 d (j + 1) hi se c (by omega) (by omega) (by omega)
          · rw [if_neg z]; exact hs_ct hi1 d (j + 1) hi se (c + 1) (by omega) (by omega) (by omega)
theorem hs_le {mt : Nat → Nat} {n B : Nat} (hb : ∀ j, j < 5 → mt j ≤ B) : ∀ (d j hi se : Nat), j + d = 5 → hi ≤ B → se ≤ B → hs2 mt n d j hi se ≤ B
  | 0, _, _, _, _, _, h => h
  | d + 1, j, hi, se, h0, h1, h2 => by
    have := hb j (by omega)
    unfold hs2
    split
    · exact hs_le hb d (j + 1) hi se (by omega) h1 h2
    · split
      · exact hs_le hb d (j + 1) (mt j) hi (by omega) this h1
      · split
        · exact hs_le hb d (j + 1) hi (mt j) (by omega) h1 this
        · exact hs_le hb d (j + 1) hi se (by omega) h1 h2
theorem ct_two {mt : Nat → Nat} {n i : Nat} : ∀ (d j c : Nat), j + d = 5 → (1 ≤ c → ∃ a, a < j ∧ a ≠ n ∧ i ≤ mt a) → (2 ≤ c → ∃ a b, a < j ∧ b < j ∧ a ≠ n ∧ b ≠ n ∧ a ≠ b ∧ i ≤ mt a ∧ i ≤ mt b) → 2 ≤ ct2 mt n i d j c → ∃ a b, a < 5 ∧ b < 5 ∧ a ≠ n ∧ b ≠ n ∧ a ≠ b ∧ i ≤ mt a ∧ i ≤ mt b
  | 0, j, c, h0, _, h2, h => by
    obtain ⟨a, b, q⟩ := h2 h
    exact ⟨a, b, by omega, by omega, q.2.2⟩
  | d + 1, j, c, h0, h1, h2, h => by
    have w1 : 1 ≤ c → ∃ a, a < j + 1 ∧ a ≠ n ∧ i ≤ mt a := fun q => (h1 q).imp (fun a z => ⟨by omega, z.2⟩)
    have w2 : 2 ≤ c → ∃ a b, a < j + 1 ∧ b < j + 1 ∧ a ≠ n ∧ b ≠ n ∧ a ≠ b ∧ i ≤ mt a ∧ i ≤ mt b := fun q => by
      obtain ⟨a, b, z⟩ := h2 q
      exact ⟨a, b, by omega, by omega, z.2.2⟩
    unfold ct2 at h
    by_cases e : j = n
    · rw [if_pos e] at h; exact ct_two d (j + 1) c (by omega) w1 w2 h
    · rw [if_neg e] at h
      by_cases z : mt j < i
      · rw [if_pos z] at h; exact ct_two d (j + 1) c (by omega) w1 w2 h
      · rw [if_neg z] at h
        refine ct_two d (j + 1) (c + 1) (by omega) (fun _ => ⟨j, by omega, e, by omega⟩) (fun q => ?_) h
        obtain ⟨a, a1, a2, a3⟩ := h1 (by omega)
        exact ⟨a, j, by omega, by omega, a2, e, by omega, a3, by omega⟩
/-- the last index up to x, above c, that P likes; else c -/
def bst (P : Nat → Bool) (c : Nat) : Nat → Nat
  | 0 => c
  | x + 1 => if x + 1 ≤ c then c else if P (x + 1) = true then x + 1 else bst P c x
theorem bst_le {P : Nat → Bool} {c : Nat} : ∀ (x : Nat), x ≤ c → bst P c x = c
  | 0, _ => rfl
  | x + 1, h => by unfold bst; rw [if_pos h]
theorem bst_ge {P : Nat → Bool} {c : Nat} : ∀ (x : Nat), c ≤ bst P c x
  | 0 => Nat.le_refl _
  | x + 1 => by
    unfold bst
    split
    · exact Nat.le_refl _
    · split
      · omega
      · exact bst_ge x
theorem bst_is {P : Nat → Bool} {c : Nat} : ∀ (x : Nat), bst P c x = c ∨ (P (bst P c x) = true ∧ bst P c x ≤ x ∧ c < bst P c x)
  | 0 => Or.inl rfl
  | x + 1 => by
    unfold bst
    by_cases z : x + 1 ≤ c
    · rw [if_pos z]; exact Or.inl rfl
    · rw [if_neg z]
      by_cases p : P (x + 1) = true
      · rw [if_pos p]; exact Or.inr ⟨p, by omega, by omega⟩
      · rw [if_neg p]
        rcases bst_is (P := P) (c := c) x with h | h
        · exact Or.inl h
        · exact Or.inr ⟨h.1, by omega, h.2.2⟩
section
variable {X M : Nat} {g : GH} {B n : Nat}
theorem g_ct {s : MS} {K W : Nat} {k50 : Int32 → Int32 → Int32 → Int32 → Int32 → MS → Option (Unit × MS)} {x2 x4 x5 : Int32} {i : Nat} (mi : MI s g B K W) (hn : n < 5) (h2 : mA s 8 n = 2) (hi : i < 100000) (hB : B ≤ 1200) : ∀ (d j f c : Nat), j + d = 5 → d < f → c ≤ j → gX10_accepted_67 k50 f (Int32.ofNat n) x2 x4 x5 (Int32.ofNat i) (Int32.ofNat c) (Int32.ofNat j) s = (if ct2 (mtM s n) n i d j c < 2 then gX10_accepted_130 k50 (Int32.ofNat n) x2 x4 x5 (Int32.ofNat i) s else (bdm (gX10_termAt (Int32.ofNat n) (Int32.ofNat i) s) fun z1 s1 => bd (ldA s1 11 2 (Int32.ofNat n)) fun z2 => if z1 = z2 then (gX10_accepted_130 k50 (Int32.ofNat n) x2 x4 (Int32.ofNat i) (Int32.ofNat i) s1) else (gX10_accepted_130 k50 (Int32.ofNat n) x2 x4 x5 (Int32.ofNat i) s1))) := by
  have lsB := mi_ls mi n
  intro d
  induction d with
  | zero =>
    intro j f c h0 hf hc
    obtain ⟨f, rfl⟩ : ∃ g, f = g + 1 := ⟨f - 1, by omega⟩
    show gX10_accepted_67_body _ _ _ _ _ _ _ _ _ _ = _
    unfold gX10_accepted_67_body
    have e : j = 5 := by omega
    subst e
    rw [if_pos (by decide)]
    show _ = (if c < 2 then _ else _)
    by_cases z : c < 2
    · rw [if_pos z, if_pos (by rw [show (2 : Int32) = Int32.ofNat 2 from rfl, io_lt (by omega) (by omega)]; exact z)]
    · rw [if_neg z, if_neg (by rw [show (2 : Int32) = Int32.ofNat 2 from rfl, io_lt (by omega) (by omega)]; exact z)]
  | succ d ih =>
    intro j f c h0 hf hc
    obtain ⟨f, rfl⟩ : ∃ g, f = g + 1 := ⟨f - 1, by omega⟩
    obtain ⟨l1, p, p1, p2, p3, p4⟩ := mi_leadn mi hn h2 (show j < 5 by omega)
    show gX10_accepted_67_body _ _ _ _ _ _ _ _ _ _ = _
    unfold gX10_accepted_67_body gX10_accepted_98 ct2
    rw [if_neg (i5_le (by omega))]
    by_cases e : j = n
    · rw [if_pos (by rw [e]), if_pos e, io_a1]; exact ih (j + 1) f c (by omega) (by omega) (by omega)
    · rw [if_neg (by rw [io_eq (by omega) (by omega)]; exact e), if_neg e, io_m5, io_ad, ld_12 (by omega), bd_some, p3]
      by_cases z : mtM s n j < i
      · rw [if_pos (by rw [io_lt (by omega) (by omega)]; exact z), if_pos z, io_a1]; exact ih (j + 1) f c (by omega) (by omega) (by omega)
      · rw [if_neg (by rw [io_lt (by omega) (by omega)]; exact z), if_neg z, io_a1, io_a1]; exact ih (j + 1) f (c + 1) (by omega) (by omega) (by omega)
/-- the reference's choice -/
def okT (s : MS) (n : Nat) (i : Nat) : Bool := decide (lgM s n i 0 = mA s 2 n)
theorem g_best {s : MS} {K W : Nat} {x2 x4 : Int32} (mi : MI s g B K W) (hn : n < 5) (h2 : mA s 8 n = 2) (hB : B ≤ 1200) {c se : Nat} (hse : ∀ i, 1 ≤ i → (2 ≤ ct2 (mtM s n) n i 5 0 0 ↔ i ≤ se)) : ∀ (d i f b : Nat), i + d = lsM s n + 1 → d < f → c + 1 ≤ i → b ≤ 1200 → b = bst (okT s n) c (min se (i - 1)) → gX10_accepted_50 f (Int32.ofNat n) x2 x4 (Int32.ofNat b) (Int32.ofNat i) s = (bd (stA s 11 6 (Int32.ofNat n) (Int32.ofNat (bst (okT s n) c (min se (lsM s n))))) fun s2 => bd (ldA s2 11 11 x4) fun z3 => bd (ldA s2 11 5 (Int32.ofNat n)) fun z4 => if z4 < z3 then (some ((), s2)) else (bdm (gX10_send (Int32.ofNat n) x2 s2) fun _ s5 => some ((), s5))) := by
  have lsB := mi_ls mi n
  intro d
  induction d with
  | zero =>
    intro i f b h0 hf hi hb1 hb
    obtain ⟨f, rfl⟩ : ∃ g, f = g + 1 := ⟨f - 1, by omega⟩
    show gX10_accepted_50_body _ _ _ _ _ _ _ = _
    unfold gX10_accepted_50_body
    rw [ld_5 hn, bd_some, mi_5 mi hn, if_pos (by rw [io_lt (by omega) (by omega)]; omega), hb, show i - 1 = lsM s n by omega]
  | succ d ih =>
    intro i f b h0 hf hi hb1 hb
    obtain ⟨f, rfl⟩ : ∃ g, f = g + 1 := ⟨f - 1, by omega⟩
    show gX10_accepted_50_body _ _ _ _ _ _ _ = _
    unfold gX10_accepted_50_body
    rw [ld_5 hn, bd_some, mi_5 mi hn, if_neg (by rw [io_lt (by omega) (by omega)]; omega), show (0 : Int32) = Int32.ofNat 0 from rfl, g_ct mi hn h2 (by omega) hB 5 0 LF 0 rfl (LF_lt (by decide)) (Nat.le_refl _)]
    have hs := hse i (by omega)
    unfold gX10_accepted_130
    obtain ⟨j, rfl⟩ : ∃ j, i = j + 1 := ⟨i - 1, by omega⟩
    rw [show j + 1 - 1 = j by omega] at hb
    by_cases z : ct2 (mtM s n) n (j + 1) 5 0 0 < 2
    · rw [if_pos z, io_a1]
      exact ih (j + 2) f b (by omega) (by omega) (by omega) hb1 (by rw [hb, show min se (j + 2 - 1) = min se j by omega])
    · have hj : j + 1 ≤ se := hs.mp (by omega)
      rw [if_neg z, g_termAt hn (by omega), bdm_some, ld_2 hn, bd_some, ← lg_0 (by omega)]
      by_cases t : lgM s n (j + 1) 0 = mA s 2 n
      · rw [if_pos t, io_a1]
        refine ih (j + 2) f (j + 1) (by omega) (by omega) (by omega) (by omega) ?_
        rw [show min se (j + 2 - 1) = j + 1 by omega]
        unfold bst
        rw [if_neg (by omega), if_pos (by unfold okT; exact decide_eq_true t)]
      · rw [if_neg t, io_a1]
        refine ih (j + 2) f b (by omega) (by omega) (by omega) hb1 ?_
        rw [hb, show min se (j + 2 - 1) = j + 1 by omega, show min se j = j by omega]
        show bst (okT s n) c j = bst (okT s n) c (j + 1)
        conv => rhs; unfold bst
        rw [if_neg (by omega), if_neg (by unfold okT; simp [t])]
theorem io_m1 (x : Nat) : Int32.ofNat (x + 1) + (-1 : Int32) = Int32.ofNat x := by rw [← Int32.sub_eq_add_neg, io_s1 (by omega), Nat.add_sub_cancel]
theorem c_dn {h : Hp} {s : MS} {K W : Nat} (w : RX X M h s g K) (mi : MI s g B K W) (hn : n < 5) (hu : mA s 1 n = 1) (hB : B ≤ 1200) : ∀ (x f : Nat), x < f → x ≤ lsM s n → fX5_commitWhatMatches_84 f (ndA X n) (Int32.ofNat x) h = some ((), if bst (okT s n) (cmM s n) x = cmM s n then h else sI h (gq 5 5) (ndA X n) (Int32.ofNat (bst (okT s n) (cmM s n) x))) := by
  have lsB := mi_ls mi n
  obtain ⟨c1, c2, c3⟩ := mi_cm mi n
  intro x
  induction x with
  | zero =>
    intro f hf _
    obtain ⟨f, rfl⟩ : ∃ g, f = g + 1 := ⟨f - 1, by omega⟩
    show fX5_commitWhatMatches_84_body _ _ _ _ = _
    unfold fX5_commitWhatMatches_84_body
    rw [q_comU w hn hu, bd_some, mi_6 mi hn hu, if_pos (by rw [io_le (by omega) (by omega)]; omega), if_pos (show bst (okT s n) (cmM s n) 0 = cmM s n from rfl)]
  | succ x ih =>
    intro f hf hx
    obtain ⟨f, rfl⟩ : ∃ g, f = g + 1 := ⟨f - 1, by omega⟩
    show fX5_commitWhatMatches_84_body _ _ _ _ = _
    unfold fX5_commitWhatMatches_84_body
    rw [q_comU w hn hu, bd_some, mi_6 mi hn hu]
    by_cases z : x + 1 ≤ cmM s n
    · rw [if_pos (by rw [io_le (by omega) (by omega)]; exact z), bst_le (x + 1) z, if_pos rfl]
    · rw [if_neg (by rw [io_le (by omega) (by omega)]; exact z), q_disk w hn, bd_some, onR_some, if_pos (q_k1 w hn), c_termN w mi hn hB (by omega), if_pos ⟨by omega, hx⟩, bd2_some, q_disk w hn, bd_some, onR_some, q_term w hn, bd_some]
      by_cases t : lgM s n (x + 1) 0 = mA s 2 n
      · rw [if_pos t, pI_k (q_k5 w hn), bd_some]
        have e : bst (okT s n) (cmM s n) (x + 1) = x + 1 := by unfold bst; rw [if_neg z, if_pos (by unfold okT; exact decide_eq_true t)]
        rw [e, if_neg (by omega)]
      · have e : bst (okT s n) (cmM s n) (x + 1) = bst (okT s n) (cmM s n) x := by
          conv => lhs; unfold bst
          rw [if_neg z, if_neg (by unfold okT; simp [t])]
        rw [if_neg t, e]
        rw [io_m1]
        exact ih f (by omega) (by omega)
end
