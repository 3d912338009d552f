section
variable {X M : Nat} {g : GH} {B K W n m q k p c t : Nat}
theorem c_count {h : Hp} {s : MS} (a : MQq X M h s g K q k m) (h15 : mA s 15 k = 2) (h21 : mA s 21 k = Int32.ofNat c) (hc : c ≤ 4) : fX4_entryCount q h = some (Int32.ofNat c, h) := by
  obtain ⟨r, c', r1, r2, r3, r4, r5, r6⟩ := a.2.1.2.1 h15
  have cc' : c' = c := by rw [h21, io_eq (by omega) (by omega)] at r4; exact r4.symm
  subst cc'
  unfold fX4_entryCount
  rw [gR_k (mq_k a), r1, bd_some, onR_some, bd_some, onR_some, lnA_k r3, bd_some]
/-- the follower has all: COMMIT, and the answer -/
theorem j_apfin {h : Hp} {s : MS} {e T : Nat} (w : RX X M h s g K) (mi : MI s g B K W) (a : MQq X M h s g K q k m) (hn : n < 5) (hm : m < 5) (hnm : n ≠ m) (hB : B ≤ 1200) (hK' : K < 3000) (hu : mA s 1 n = 1) (ht : tmM s n = T) (hd : gD g T ≠ 0) (h15 : mA s 15 k = 2) (h19 : mA s 19 k = Int32.ofNat p) (h21 : mA s 21 k = Int32.ofNat c) (h22 : mA s 22 k = Int32.ofNat t) (hc : c ≤ 4) (pc1 : 1 ≤ p + c) (pcW : p + c ≤ gW g T) (ct : CPM g (gE g T) T t) (tW : t ≤ gW g T) (he : e = max (p + c) (bsM s n)) (pl : p + c ≤ bsM s n ∨ (p + c ≤ lsM s n ∧ Ag (lgM s n) (gE g T) (p + c))) : JO X M B n 1 h s g K (bd (gI h 4 4 q) fun z3 => if hK h q = some (4, 0) then (bd2 (fX4_entryCount q h) fun z4 h4 => bd (gI h4 5 5 (ndA X n)) fun z5 => bd (gI h4 4 7 q) fun z6 => bd (pI h4 5 5 (ndA X n) (mx z5 (mn z6 (z3 + z4)))) fun h7 => if hK h7 (ndA X n) = some (5, 0) then (bd2 (fX5_reply (ndA X n) q (3 : Int32) (mx (z3 + z4) (mA s 4 n)) h7) fun _ h8 => some ((), h8)) else none) else none) (apT (Int32.ofNat k) (Int32.ofNat n) (Int32.ofNat m) (Int32.ofNat e) s) := by
  have hk : k < 3000 := by have := a.1; omega
  have lsB := mi_ls mi n
  have gWB : gW g T ≤ B := mi.2.2.2.1 T
  obtain ⟨c1, c2, c3⟩ := mi_cm mi n
  have rc := r_com mi.1 (x := lgM s n) (T := tmM s n) c3 (by rw [ht]; exact hd) (rm_0 mi.1 n)
  rw [ht] at rc
  have bs4 := mi_4 mi hn
  have em : max (cmM s n) (min t e) = max (cmM s n) (min t (p + c)) := by omega
  have kl : max (cmM s n) (min t (p + c)) ≤ lsM s n := by rcases pl with z | z <;> omega
  have ag : Ag (lgM s n) (gE g T) (max (p + c) (bsM s n)) := by
    rcases pl with z | z
    · exact ag_le rc.2 (by omega)
    · intro j hj
      by_cases y : j ≤ p + c
      · exact z.2 j y
      · exact rc.2 j (by omega)
  have kc : CPM g (lgM s n) (tmM s n) (max (cmM s n) (min t (p + c))) := by
    by_cases y : min t (p + c) ≤ cmM s n
    · rw [Nat.max_eq_left y]; exact c3
    · rw [Nat.max_eq_right (by omega), ht]
      exact cpm_mono (gle_refl g) (Nat.le_refl _) (fun j hj => ag j (by omega)) (cpt_le teM ct (by omega))
  have w1 := rx_commit (k := max (cmM s n) (min t (p + c))) w hn hu (by omega) (by omega)
  have m1 := mi_commit (k := max (cmM s n) (min t (p + c))) mi hn hu hB kl (by omega) kc
  have cc1 : CC X n h (sI h (gq 5 5) (ndA X n) (Int32.ofNat (max (cmM s n) (min t (p + c))))) := cc_nd (ch_sI (by unfold PNd; omega)) hn
  have t1 : tmM (uA s 6 n (Int32.ofNat (max (cmM s n) (min t (p + c))))) n = T := by rw [← ht]; unfold tmM; rw [mA_k _ _ _ _ (by decide)]
  have l1 : lsM (uA s 6 n (Int32.ofNat (max (cmM s n) (min t (p + c))))) n = lsM s n := by unfold lsM; rw [mA_k _ _ _ _ (by decide)]
  obtain ⟨m2, gl, ga⟩ := mi_ack (n := n) (i := e) m1 (by rw [l1]; rcases pl with z | z <;> omega) (by rw [t1]; omega) (by rw [t1, he]; intro j hj; rw [lg_uA (by decide)]; exact ag j hj)
  have w2 := rx_gl w1 gl (fun _ => rfl)
  have a2 := mq_nx (s' := uA s 6 n (Int32.ofNat (max (cmM s n) (min t (p + c))))) a cc1 hn (rx_M w) gl (fun x j h1 h2 => mA_k _ _ _ _ (by omega))
  have x4 : mA (uA s 6 n (Int32.ofNat (max (cmM s n) (min t (p + c))))) 4 n = mA s 4 n := mA_k _ _ _ _ (by decide)
  have jr := j_reply (t := 3) (v := Int32.ofNat e) w2 m2 hn hm hnm hK' (by omega) (mq_k a2) (mq_f a2) (mq_z a2) (Or.inr (Or.inl ⟨rfl, e, rfl, by omega, ga⟩))
  refine jo_step0 (s1 := uA s 6 n (Int32.ofNat (max (cmM s n) (min t (p + c))))) cc1 (ex_uA (by decide)) gl ?_
  unfold apT
  simp only [mq_4 a, bd_some, if_pos (mq_k a), c_count a h15 h21 hc, bd2_some, q_comU w hn hu, mq_7 a, h19, h22, io_ad, mi_6 mi hn hu, io_mn (show t < 2147483648 by omega) (show p + c < 2147483648 by omega), io_mx (show cmM s n < 2147483648 by omega) (show min t (p + c) < 2147483648 by omega), pI_k (q_k5 w hn), if_pos (q_k5 w2 hn), bs4, io_mx (show p + c < 2147483648 by omega) (show bsM s n < 2147483648 by omega), ← he, ld_6 hn, ld_22 hk, io_mn (show t < 2147483648 by omega) (show e < 2147483648 by omega), io_mx (show cmM s n < 2147483648 by omega) (show min t e < 2147483648 by omega), em, st_6 hn, ld_4 hn, x4, io_mx (show e < 2147483648 by omega) (show bsM s n < 2147483648 by omega), show max e (bsM s n) = e by omega]
  exact jo_id jr
theorem c_skips {h : Hp} {s : MS} (w : RX X M h s g K) (mi : MI s g B K W) (a : MQq X M h s g K q k m) (hn : n < 5) (hB : B ≤ 1200) (h15 : mA s 15 k = 2) (h19 : mA s 19 k = Int32.ofNat p) (h21 : mA s 21 k = Int32.ofNat c) (hc : c ≤ 4) (hp : p ≤ 1200) {sk f : Nat} (hs : sk ≤ c) (hb : sk ≤ bsM s n - p) : ∀ (e i : Nat), i + e = sk → fX5_keepEntries_2 (f + e) (ndA X n) q (mA s 4 n) (Int32.ofNat i) h = fX5_keepEntries_2 f (ndA X n) q (mA s 4 n) (Int32.ofNat sk) h
  | 0, i, h0 => by rw [show i = sk by omega, Nat.add_zero]
  | e + 1, i, h0 => by
    rw [show f + (e + 1) = (f + e) + 1 by omega, c_skip w mi a hn hB h15 h19 h21 hc hp (by omega) (by omega)]
    exact c_skips w mi a hn hB h15 h19 h21 hc hp hs hb e (i + 1) (by omega)
theorem g_skips {s : MS} {y : Int32} {b : Nat} (hn : n < 5) (hk : k < 3000) (h21 : mA s 21 k = Int32.ofNat c) (hc : c ≤ 4) (h4 : mA s 4 n = Int32.ofNat b) (hb : b ≤ 1200) (hp : p ≤ 1200) : ∀ (d i f : Nat), i + d = c → d < f → gX10_appends_36 f (Int32.ofNat k) (Int32.ofNat n) (Int32.ofNat m) (Int32.ofNat (p + i)) (Int32.ofNat i) y s = gX10_appends_67 (Int32.ofNat k) (Int32.ofNat n) (Int32.ofNat m) (Int32.ofNat (p + max i (min c (b - p)))) (Int32.ofNat (max i (min c (b - p)))) y s := by
  intro d
  induction d with
  | zero =>
    intro i f h0 hf
    obtain ⟨f, rfl⟩ : ∃ g, f = g + 1 := ⟨f - 1, by omega⟩
    have e0 : gX10_appends_36 (f + 1) (Int32.ofNat k) (Int32.ofNat n) (Int32.ofNat m) (Int32.ofNat (p + i)) (Int32.ofNat i) y s = gX10_appends_36_body (gX10_appends_36 f) (Int32.ofNat k) (Int32.ofNat n) (Int32.ofNat m) (Int32.ofNat (p + i)) (Int32.ofNat i) y s := rfl
    rw [e0]
    unfold gX10_appends_36_body
    rw [ld_21 hk, bd_some, h21, if_pos (by rw [io_le (by omega) (by omega)]; omega), show max i (min c (b - p)) = i by omega]
  | succ d ih =>
    intro i f h0 hf
    obtain ⟨f, rfl⟩ : ∃ g, f = g + 1 := ⟨f - 1, by omega⟩
    have e0 : gX10_appends_36 (f + 1) (Int32.ofNat k) (Int32.ofNat n) (Int32.ofNat m) (Int32.ofNat (p + i)) (Int32.ofNat i) y s = gX10_appends_36_body (gX10_appends_36 f) (Int32.ofNat k) (Int32.ofNat n) (Int32.ofNat m) (Int32.ofNat (p + i)) (Int32.ofNat i) y s := rfl
    rw [e0]
    unfold gX10_appends_36_body
    rw [ld_21 hk, bd_some, h21, if_neg (by rw [io_le (by omega) (by omega)]; omega), ld_4 hn, bd_some, h4]
    by_cases z : b ≤ p + i
    · rw [if_pos (by rw [io_le (by omega) (by omega)]; exact z), show max i (min c (b - p)) = i by omega]
    · rw [if_neg (by rw [io_le (by omega) (by omega)]; exact z), io_a1, io_a1]
      have := ih (i + 1) f (by omega) (by omega)
      rw [show p + (i + 1) = p + i + 1 by omega, show max (i + 1) (min c (b - p)) = max i (min c (b - p)) by omega] at this
      exact this
/-- a follower that takes from e on -/
theorem j_ap144 {h : Hp} {s : MS} {T : Nat} (w : RX X M h s g K) (mi : MI s g B K W) (a : MQq X M h s g K q k m) (hn : n < 5) (hm : m < 5) (hnm : n ≠ m) (hB : B ≤ 1200) (hK' : K < 3000) (hu : mA s 1 n = 1) (h8 : mA s 8 n = 0) (ht : tmM s n = T) (hd : gD g T ≠ 0) (h15 : mA s 15 k = 2) (h19 : mA s 19 k = Int32.ofNat p) (h21 : mA s 21 k = Int32.ofNat c) (h22 : mA s 22 k = Int32.ofNat t) (hc : c ≤ 4) (pc1 : 1 ≤ p + c) (pcW : p + c ≤ gW g T) (ct : CPM g (gE g T) T t) (tW : t ≤ gW g T) (hcr : ∀ j, j < c → crM s k j = gE g T (p + 1 + j)) (pl : p < bsM s n ∨ (p ≤ lsM s n ∧ Ag (lgM s n) (gE g T) p)) : JO X M B n 1 h s g K (fX5_handleAppend_83 (ndA X n) q (mA s 4 n) h) (gX10_appends_144 (Int32.ofNat k) (Int32.ofNat n) (Int32.ofNat m) (Int32.ofNat (max p (bsM s n))) (Int32.ofNat (min c (bsM s n - p))) s) := by
  have lsB := mi_ls mi n
  have gWB : gW g T ≤ B := mi.2.2.2.1 T
  obtain ⟨c1, c2, c3⟩ := mi_cm mi n
  have rc := r_com mi.1 (x := lgM s n) (T := tmM s n) c3 (by rw [ht]; exact hd) (rm_0 mi.1 n)
  rw [ht] at rc
  have hk : k < 3000 := by have := a.1; omega
  have sk4 : min c (bsM s n - p) ≤ 4 := by omega
  have cs := c_skips (sk := min c (bsM s n - p)) (f := LF - min c (bsM s n - p)) w mi a hn hB h15 h19 h21 hc (by omega) (by omega) (by omega) (min c (bsM s n - p)) 0 (by omega)
  have lf : LF - min c (bsM s n - p) + min c (bsM s n - p) = LF := by have : LF = 1000000 := rfl; omega
  rw [lf] at cs
  unfold fX5_handleAppend_83 fX5_keepEntries gX10_appends_144
  rw [if_pos (q_k5 w hn), show (0 : Int32) = Int32.ofNat 0 from rfl, cs]
  by_cases z : p + c ≤ bsM s n
  · have e1 : min c (bsM s n - p) = c := by omega
    have kd : fX5_keepEntries_2 (LF - min c (bsM s n - p)) (ndA X n) q (mA s 4 n) (Int32.ofNat (min c (bsM s n - p))) h = some (1, h) := by
      obtain ⟨f, hf⟩ : ∃ f, LF - min c (bsM s n - p) = f + 1 := ⟨LF - min c (bsM s n - p) - 1, by have : LF = 1000000 := rfl; omega⟩
      have e0 : fX5_keepEntries_2 (f + 1) (ndA X n) q (mA s 4 n) (Int32.ofNat c) h = fX5_keepEntries_2_body (fX5_keepEntries_2 f) (ndA X n) q (mA s 4 n) (Int32.ofNat c) h := rfl
      rw [hf, e1, e0]
      unfold fX5_keepEntries_2_body
      rw [if_pos (mq_k a), c_count a h15 h21 hc, bd2_some, if_pos (Int32.le_refl _)]
    have gd : gX10_appends_152 LF (Int32.ofNat k) (Int32.ofNat n) (Int32.ofNat m) (Int32.ofNat (max p (bsM s n))) (Int32.ofNat (min c (bsM s n - p))) s = apT (Int32.ofNat k) (Int32.ofNat n) (Int32.ofNat m) (Int32.ofNat (max (p + c) (bsM s n))) s := by
      obtain ⟨f, hf⟩ : ∃ f, LF = f + 1 := ⟨999999, rfl⟩
      have e0 : gX10_appends_152 (f + 1) (Int32.ofNat k) (Int32.ofNat n) (Int32.ofNat m) (Int32.ofNat (max p (bsM s n))) (Int32.ofNat c) s = gX10_appends_152_body (gX10_appends_152 f) (Int32.ofNat k) (Int32.ofNat n) (Int32.ofNat m) (Int32.ofNat (max p (bsM s n))) (Int32.ofNat c) s := rfl
      rw [hf, e1, e0]
      unfold gX10_appends_152_body apT
      rw [ld_21 hk, bd_some, h21, if_pos (Int32.le_refl _), show max p (bsM s n) = max (p + c) (bsM s n) by omega]
    rw [kd, gd, bd2_some, if_neg (by decide)]
    exact j_apfin w mi a hn hm hnm hB hK' hu ht hd h15 h19 h21 h22 hc pc1 pcW ct tW rfl (Or.inl z)
  · have e1 : p + min c (bsM s n - p) = max p (bsM s n) := by omega
    have A : p + min c (bsM s n - p) ≤ lsM s n ∧ Ag (lgM s n) (gE g T) (p + min c (bsM s n - p)) := by
      rcases pl with y | y
      · rw [e1, Nat.max_eq_right (by omega)]; exact ⟨by omega, ag_le rc.2 c2⟩
      · by_cases u : bsM s n ≤ p
        · rw [e1, Nat.max_eq_left u]; exact y
        · rw [e1, Nat.max_eq_right (by omega)]; exact ⟨by omega, ag_le rc.2 c2⟩
    obtain ⟨h', s', g1, g2, g3, g4, g5, g6⟩ := j_keep (T := T) hn hm hnm hB hK' hc hd pcW (c - min c (bsM s n - p)) (min c (bsM s n - p)) (LF - min c (bsM s n - p)) LF h s (by omega) (by have : LF = 1000000 := rfl; omega) (LF_lt (by omega)) w mi a h15 h19 h21 ht hu h8 (by omega) hcr (fun _ => A)
    rw [← e1]
    rcases g6 with ⟨q1, q2⟩ | ⟨q1, q2, q3, q4, q5, q6, q7, q8, q9⟩
    · rw [q1, q2, bd2_some, if_pos (show (0 : Int32) = Int32.ofNat 0 from rfl)]
      exact ⟨h', s', g, K, W, rfl, rfl, g1, g2, g3, gle_refl g, g4, Nat.le_refl _, by omega⟩
    · have bs' : bsM s' n = bsM s n := by unfold bsM; rw [q6]
      rw [q1, q2, bd2_some, if_neg (show ¬ (1 : Int32) = Int32.ofNat 0 by decide), ← q6, show p + c = max (p + c) (bsM s' n) by omega]
      refine jo_step0 g1 g4 (gle_refl g) (j_apfin g2 g3 (mq_nx a g1 hn (rx_M w) (gle_refl g) g5) hn hm hnm hB hK' q4 q3 hd ((g5 15 k (by decide) (by decide)).trans h15) ((g5 19 k (by decide) (by decide)).trans h19) ((g5 21 k (by decide) (by decide)).trans h21) ((g5 22 k (by decide) (by decide)).trans h22) hc pc1 pcW ct tW rfl (Or.inr ?_))
      by_cases dd : c - min c (bsM s n - p) = 0
      · rw [q9 dd, show p + c = p + min c (bsM s n - p) by omega]; exact A
      · exact q8 dd
end
