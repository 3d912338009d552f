section
variable {X M : Nat} {h : Hp} {s : MS} {g : GH} {B K W n m q : Nat}
theorem c_sec (w : RX X M h s g K) (mi : MI s g B K W) (hn : n < 5) (h2 : mA s 8 n = 2) (hB : B ≤ 1200) : ∀ (d j f hi se : Nat), j + d = 5 → d < f → hi ≤ 1200 → se ≤ 1200 → fX5_commitWhatMatches_6 f (ndA X n) (Int32.ofNat hi) (Int32.ofNat se) (Int32.ofNat j) h = fX5_commitWhatMatches_84 LF (ndA X n) (Int32.ofNat (min (hs2 (mtM s n) n d j hi se) (lsM s n))) h := by
  have lsB := mi_ls mi n
  intro d
  induction d with
  | zero =>
    intro j f hi se h0 hf b1 b2
    obtain ⟨f, rfl⟩ : ∃ g, f = g + 1 := ⟨f - 1, by omega⟩
    have e : j = 5 := by omega
    subst e
    have e1 : fX5_commitWhatMatches_6 (f + 1) (ndA X n) (Int32.ofNat hi) (Int32.ofNat se) (Int32.ofNat 5) h = fX5_commitWhatMatches_6_body (fX5_commitWhatMatches_6 f) (ndA X n) (Int32.ofNat hi) (Int32.ofNat se) (Int32.ofNat 5) h := rfl
    rw [e1]
    unfold fX5_commitWhatMatches_6_body hs2
    rw [if_pos (by decide), q_disk w hn, bd_some, onR_some, q_last w hn, bd_some, mi_5 mi hn, io_mn (by omega) (by omega)]
  | succ d ih =>
    intro j f hi se h0 hf b1 b2
    obtain ⟨f, rfl⟩ : ∃ g, f = g + 1 := ⟨f - 1, by omega⟩
    obtain ⟨l1, p, p1, p2, p3, p4, p5⟩ := mi_leadn mi hn h2 (show j < 5 by omega)
    have e1 : fX5_commitWhatMatches_6 (f + 1) (ndA X n) (Int32.ofNat hi) (Int32.ofNat se) (Int32.ofNat j) h = fX5_commitWhatMatches_6_body (fX5_commitWhatMatches_6 f) (ndA X n) (Int32.ofNat hi) (Int32.ofNat se) (Int32.ofNat j) h := rfl
    rw [e1]
    unfold fX5_commitWhatMatches_6_body hs2 fX5_commitWhatMatches_41 fX5_commitWhatMatches_66
    rw [if_neg (i5_le (by omega)), q_num w hn, bd_some]
    by_cases e : j = n
    · rw [if_pos (by rw [e]), bd_some, if_pos (by rw [e]), if_pos e, io_a1]
      exact ih (j + 1) f hi se (by omega) (by omega) b1 b2
    · have ne : ¬ Int32.ofNat j = Int32.ofNat n := by rw [io_eq (by omega) (by omega)]; exact e
      simp only [if_neg ne, if_neg e, q_matchR w hn, bd_some, onR_some, q_match w hn (show j < 5 by omega), p3, io_a1]
      by_cases z : hi < mtM s n j
      · have zz : ¬ Int32.ofNat (mtM s n j) ≤ Int32.ofNat hi := by rw [io_le (by omega) (by omega)]; omega
        simp only [if_neg zz, if_pos z]
        exact ih (j + 1) f (mtM s n j) hi (by omega) (by omega) (by omega) b1
      · have zz : Int32.ofNat (mtM s n j) ≤ Int32.ofNat hi := by rw [io_le (by omega) (by omega)]; omega
        simp only [if_pos zz, if_neg z]
        by_cases z2 : se < mtM s n j
        · have zz : ¬ Int32.ofNat (mtM s n j) ≤ Int32.ofNat se := by rw [io_le (by omega) (by omega)]; omega
          simp only [if_neg zz, if_pos z2]
          exact ih (j + 1) f hi (mtM s n j) (by omega) (by omega) b1 (by omega)
        · have zz : Int32.ofNat (mtM s n j) ≤ Int32.ofNat se := by rw [io_le (by omega) (by omega)]; omega
          simp only [if_pos zz, if_neg z2]
          exact ih (j + 1) f hi se (by omega) (by omega) b1 b2
theorem c_cwm (w : RX X M h s g K) (mi : MI s g B K W) (hn : n < 5) (hu : mA s 1 n = 1) (h2 : mA s 8 n = 2) (hB : B ≤ 1200) : fX5_commitWhatMatches (ndA X n) h = some ((), if bst (okT s n) (cmM s n) (min (hs2 (mtM s n) n 5 0 0 0) (lsM s n)) = cmM s n then h else sI h (gq 5 5) (ndA X n) (Int32.ofNat (bst (okT s n) (cmM s n) (min (hs2 (mtM s n) n 5 0 0 0) (lsM s n))))) := by
  have lsB := mi_ls mi n
  unfold fX5_commitWhatMatches
  have := c_sec w mi hn h2 hB 5 0 LF 0 0 rfl (LF_lt (by decide)) (by omega) (by omega)
  rw [show (0 : Int32) = Int32.ofNat 0 from rfl, this]
  exact c_dn w mi hn hu hB _ _ (LF_lt (by omega)) (by omega)
theorem j_acc2 {k : Nat} (w : RX X M h s g K) (mi : MI s g B K W) (a : MQq X M h s g K q k m) (hn : n < 5) (hm : m < 5) (hnm : n ≠ m) (hB : B ≤ 1200) (hK' : K + 1 < 3000) (hu : mA s 1 n = 1) (h2 : mA s 8 n = 2) : JO X M B n 1 h s g K (bd2 (fX5_commitWhatMatches (ndA X n) h) fun _ h9 => bd (gR h9 5 12 (ndA X n)) fun z10 => onR z10 (none) fun a11 => bd (gI h9 4 1 q) fun z12 => bd (ldI h9 11 a11 z12) fun z13 => bd (gR h9 5 0 (ndA X n)) fun z14 => onR z14 (none) fun a15 => bd (gI h9 1 2 a15) fun z16 => if z16 < z13 then (some ((), h9)) else (bd (gI h9 4 1 q) fun z18 => if hK h9 (ndA X n) = some (5, 0) then (bd2 (fX5_sendTo (ndA X n) z18 h9) fun _ h19 => some ((), h19)) else none)) (gX10_accepted_36 (Int32.ofNat n) (Int32.ofNat m) (Int32.ofNat (5 * n + m)) s) := by
  have lsB := mi_ls mi n
  obtain ⟨c1, c2, c3⟩ := mi_cm mi n
  obtain ⟨d1, d2, d3, d4⟩ := mi_lead7 mi h2
  have mtB : ∀ j, j < 5 → mtM s n j ≤ lsM s n := fun j hj => by
    obtain ⟨l1, p, p1, p2, p3, p4, p5⟩ := mi_leadn mi hn h2 hj
    omega
  have seB := hs_le (n := n) mtB 5 0 0 0 rfl (by omega) (by omega)
  have hse : ∀ i, 1 ≤ i → (2 ≤ ct2 (mtM s n) n i 5 0 0 ↔ i ≤ hs2 (mtM s n) n 5 0 0 0) := fun i hi => hs_ct hi 5 0 0 0 0 (Nat.le_refl _) (by omega) (by omega)
  rw [c_cwm w mi hn hu h2 hB]
  unfold gX10_accepted_36
  rw [bd2_some, ld_6 hn, bd_some, mi_6 mi hn hu, io_a1, g_best (c := cmM s n) (se := hs2 (mtM s n) n 5 0 0 0) mi hn h2 hB hse (lsM s n - cmM s n) (cmM s n + 1) LF (cmM s n) (by omega) (LF_lt (by omega)) (by omega) (by omega) (bst_le _ (by omega)).symm]
  have kB := bst_is (P := okT s n) (c := cmM s n) (min (hs2 (mtM s n) n 5 0 0 0) (lsM s n))
  generalize bst (okT s n) (cmM s n) (min (hs2 (mtM s n) n 5 0 0 0) (lsM s n)) = k' at *
  have hk1 : cmM s n ≤ k' ∧ k' ≤ lsM s n := by rcases kB with z | z <;> omega
  have hc : CPM g (lgM s n) (tmM s n) k' := by
    rcases kB with z | ⟨z1, z2, z3⟩
    · rw [z]; exact c3
    · obtain ⟨x, y, e1, e2, e3, e4, e5, e6, e7⟩ := ct_two 5 0 0 rfl (fun q => by omega) (fun q => by omega) ((hse k' (by omega)).mpr (by omega))
      have t : lgM s n k' 0 = mA s 2 n := of_decide_eq_true z1
      exact r_lcom mi.1 (rl2 h2) (by omega) (by omega) (by show (lgM s n k' 0).toNatClampNeg = tmM s n; rw [t]; rfl) e1 e2 e3 e4 e5 e6 e7
  have m2 : MI (uA s 6 n (Int32.ofNat k')) g B K W := mi_commit mi hn hu hB hk1.2 (by omega) hc
  have w2 : RX X M (if k' = cmM s n then h else sI h (gq 5 5) (ndA X n) (Int32.ofNat k')) (uA s 6 n (Int32.ofNat k')) g K := by
    by_cases z : k' = cmM s n
    · rw [if_pos z, z, ← mi_6 mi hn hu, uA_id]; exact w
    · rw [if_neg z]; exact rx_commit w hn hu hk1.1 (by omega)
  have cc : CC X n h (if k' = cmM s n then h else sI h (gq 5 5) (ndA X n) (Int32.ofNat k')) := by
    split
    · exact cc_refl X n h
    · exact cc_nd (ch_sI (by unfold PNd; omega)) hn
  have a2 := mq_nx (s' := uA s 6 n (Int32.ofNat k')) a cc hn (rx_M w) (gle_refl g) (fun x i h1 h2 => mA_k _ _ _ _ (by omega))
  generalize (if k' = cmM s n then h else sI h (gq 5 5) (ndA X n) (Int32.ofNat k')) = h9 at *
  refine jo_step0 (s1 := uA s 6 n (Int32.ofNat k')) cc (ex_uA (by decide)) (gle_refl g) ?_
  have h2' : mA (uA s 6 n (Int32.ofNat k')) 8 n = 2 := by rw [mA_k _ _ _ _ (by decide)]; exact h2
  have hu' : mA (uA s 6 n (Int32.ofNat k')) 1 n = 1 := by rw [mA_k _ _ _ _ (by decide)]; exact hu
  simp only [st_6 hn, bd_some, q_nextR w2 hn, onR_some, mq_1 a2, q_next w2 hn hm, q_disk w2 hn, q_last w2 hn, ld_11 (show 5 * n + m < 25 by omega), ld_5 hn, if_pos (q_k5 w2 hn)]
  by_cases z : mA (uA s 6 n (Int32.ofNat k')) 5 n < mA (uA s 6 n (Int32.ofNat k')) 11 (5 * n + m)
  · simp only [if_pos z]; exact jo_here w2 m2
  · simp only [if_neg z]
    obtain ⟨h', s', K', W', f1, f2, f3, f4, f5, f6, f7, f8⟩ := j_send w2 m2 hn hm hnm hB (by omega) hu' h2'
    exact ⟨h', s', g, K', W', by rw [f1, bd2_some], by rw [f2, bdm_some], f3, f4, f5, gle_refl g, ex_mx f6, f7, f8⟩
theorem j_accept {k i : Nat} (w : RX X M h s g K) (mi : MI s g B K W) (a : MQq X M h s g K q k m) (hn : n < 5) (hm : m < 5) (hnm : n ≠ m) (hB : B ≤ 1200) (hK' : K + 1 < 3000) (hu : mA s 1 n = 1) (h2 : mA s 8 n = 2) (h19 : mA s 19 k = Int32.ofNat i) (i1 : 1 ≤ i) (iA : i ≤ gA g m (tmM s n)) : JO X M B n 1 h s g K (fX5_handleAccept (ndA X n) q h) (gX10_accepted (Int32.ofNat n) (Int32.ofNat m) (Int32.ofNat i) s) := by
  have lsB := mi_ls mi n
  have iB : i ≤ lsM s n := by rw [(mi_lead7 mi h2).2.1]; exact Nat.le_trans iA (mi.1.2.2.2.2.2.2.2.2.1 m (tmM s n))
  obtain ⟨l1, p, p1, p2, p3, p4, p5⟩ := mi_leadn mi hn h2 hm
  unfold fX5_handleAccept gX10_accepted fX5_handleAccept_38
  simp only [q_role w hn, bd_some, if_pos h2, q_matchR w hn, onR_some, mq_1 a, q_match w hn hm, mq_4 a, h19, io_m5, io_ad, ld_12 (show 5 * n + m < 25 by omega), p3]
  by_cases z : i ≤ mtM s n m
  · have zz : Int32.ofNat i ≤ Int32.ofNat (mtM s n m) := by rw [io_le (by omega) (by omega)]; exact z
    have e11 : Int32.ofNat (mtM s n m + 1) = mA s 11 (5 * n + m) := by rw [p1]; congr 2; omega
    simp only [if_pos zz, q_nextR w hn, bd_some, onR_some, io_a1, stI_k (q_k11 w hn) hm (by decide)]
    have w1 := rx_next (v := Int32.ofNat (mtM s n m + 1)) w hn hm
    have cc : CC X n h (tI h (ndA X n + 11) m (Int32.ofNat (mtM s n m + 1))) := cc_nd (ch_tI (by unfold PNd; omega)) hn
    have ei : uA s 11 (5 * n + m) (Int32.ofNat (mtM s n m + 1)) = s := by rw [e11]; exact uA_id s _ _
    rw [ei] at w1
    have a1 := mq_nx (s' := s) a cc hn (rx_M w) (gle_refl g) (fun _ _ _ _ => rfl)
    rw [if_pos (q_k5 w1 hn)]
    exact jo_step0 cc (ex_refl n s) (gle_refl g) (j_acc2 w1 mi a1 hn hm hnm hB hK' hu h2)
  · have zz : ¬ Int32.ofNat i ≤ Int32.ofNat (mtM s n m) := by rw [io_le (by omega) (by omega)]; exact z
    have w0 := rx_match (v := Int32.ofNat i) w hn hm
    have c0 : CC X n h (tI h (ndA X n + 12) m (Int32.ofNat i)) := cc_nd (ch_tI (by unfold PNd; omega)) hn
    have a0 := mq_nx (s' := uA s 12 (5 * n + m) (Int32.ofNat i)) a c0 hn (rx_M w) (gle_refl g) (fun x j h1 h2 => mA_k _ _ _ _ (by omega))
    simp only [if_neg zz, stI_k (q_k12 w hn) hm (by decide), bd_some, st_12 (show 5 * n + m < 25 by omega), st_11 (show 5 * n + m < 25 by omega)]
    generalize tI h (ndA X n + 12) m (Int32.ofNat i) = h1 at *
    have w1 := rx_next (v := Int32.ofNat (i + 1)) w0 hn hm
    have c1 : CC X n h1 (tI h1 (ndA X n + 11) m (Int32.ofNat (i + 1))) := cc_nd (ch_tI (by unfold PNd; omega)) hn
    have mm : mA (uA s 12 (5 * n + m) (Int32.ofNat i)) 12 (5 * n + m) = Int32.ofNat i := mA_h _ _ _ _
    simp only [q_nextR w0 hn, bd_some, onR_some, mq_1 a0, q_matchR w0 hn, q_match w0 hn hm, mm, io_a1, stI_k (q_k11 w0 hn) hm (by decide)]
    have a1 := mq_nx (s' := uA (uA s 12 (5 * n + m) (Int32.ofNat i)) 11 (5 * n + m) (Int32.ofNat (i + 1))) a0 c1 hn (rx_M w) (gle_refl g) (fun x j h1 h2 => mA_k _ _ _ _ (by omega))
    generalize tI h1 (ndA X n + 11) m (Int32.ofNat (i + 1)) = h8 at *
    have m1 : MI (uA (uA s 12 (5 * n + m) (Int32.ofNat i)) 11 (5 * n + m) (Int32.ofNat (i + 1))) g B K W := mi_match mi hn hm h2 hB iA
    rw [if_pos (q_k5 w1 hn)]
    refine jo_step0 (s1 := uA (uA s 12 (5 * n + m) (Int32.ofNat i)) 11 (5 * n + m) (Int32.ofNat (i + 1))) (cc_trans c0 c1) (ex_trans (ex_uX (by decide)) (ex_uX (by decide))) (gle_refl g) (j_acc2 w1 m1 a1 hn hm hnm hB hK' ?_ ?_)
    · rw [mA_k _ _ _ _ (by decide), mA_k _ _ _ _ (by decide)]; exact hu
    · rw [mA_k _ _ _ _ (by decide), mA_k _ _ _ _ (by decide)]; exact h2
theorem j_denial {k i : Nat} (w : RX X M h s g K) (mi : MI s g B K W) (a : MQq X M h s g K q k m) (hn : n < 5) (hm : m < 5) (hnm : n ≠ m) (hB : B ≤ 1200) (hK' : K + 1 < 3000) (hu : mA s 1 n = 1) (h2 : mA s 8 n = 2) (hk : k < 3000) (h19 : mA s 19 k = Int32.ofNat i) (iB : i ≤ 1200) : JO X M B n 1 h s g K (fX5_handleDenial (ndA X n) q h) (bd (ldA s 11 11 (((5 : Int32) * Int32.ofNat n) + Int32.ofNat m)) fun z6 => bd (ldA s 11 19 (Int32.ofNat k)) fun z7 => if z6 ≤ (z7 + (1 : Int32)) then (gX10_got_294 (Int32.ofNat n) (Int32.ofNat m) s) else (bd (ldA s 11 19 (Int32.ofNat k)) fun z8 => bd (ldA s 11 12 (((5 : Int32) * Int32.ofNat n) + Int32.ofNat m)) fun z9 => bd (stA s 11 11 (((5 : Int32) * Int32.ofNat n) + Int32.ofNat m) (mx (z8 + (1 : Int32)) (z9 + (1 : Int32)))) fun s10 => gX10_got_294 (Int32.ofNat n) (Int32.ofNat m) s10)) := by
  have lsB := mi_ls mi n
  obtain ⟨l1, p, p1, p2, p3, p4, p5⟩ := mi_leadn mi hn h2 hm
  have fin : ∀ {h : Hp} {s : MS}, RX X M h s g K → MI s g B K W → MQq X M h s g K q k m → mA s 1 n = 1 → mA s 8 n = 2 → JO X M B n 1 h s g K (fX5_handleDenial_54 (ndA X n) q h) (gX10_got_294 (Int32.ofNat n) (Int32.ofNat m) s) := by
    intro h s w mi a hu h2
    unfold fX5_handleDenial_54 gX10_got_294
    obtain ⟨h', s', K', W', f1, f2, f3, f4, f5, f6, f7, f8⟩ := j_send w mi hn hm hnm hB (by omega) hu h2
    exact ⟨h', s', g, K', W', by rw [mq_1 a, bd_some, if_pos (q_k5 w hn), f1, bd2_some], by rw [f2, bdm_some], f3, f4, f5, gle_refl g, ex_mx f6, f7, f8⟩
  unfold fX5_handleDenial
  simp only [q_role w hn, bd_some, if_pos h2, q_nextR w hn, onR_some, mq_1 a, q_next w hn hm, mq_4 a, h19, io_m5, io_ad, ld_11 (show 5 * n + m < 25 by omega), ld_19 hk, p1, io_a1]
  by_cases z : p + 1 ≤ i + 1
  · have zz : Int32.ofNat (p + 1) ≤ Int32.ofNat (i + 1) := by rw [io_le (by omega) (by omega)]; exact z
    simp only [if_pos zz]; exact fin w mi a hu h2
  · have zz : ¬ Int32.ofNat (p + 1) ≤ Int32.ofNat (i + 1) := by rw [io_le (by omega) (by omega)]; exact z
    have e : max (i + 1) (mtM s n m + 1) = max i (mtM s n m) + 1 := by omega
    simp only [if_neg zz, q_matchR w hn, bd_some, onR_some, q_match w hn hm, p3, ld_12 (show 5 * n + m < 25 by omega), io_mx (show i < 2147483648 by omega) (show mtM s n m < 2147483648 by omega), io_a1, io_mx (show i + 1 < 2147483648 by omega) (show mtM s n m + 1 < 2147483648 by omega), e, stI_k (q_k11 w hn) hm (by decide), st_11 (show 5 * n + m < 25 by omega)]
    have w1 := rx_next (v := Int32.ofNat (max i (mtM s n m) + 1)) w hn hm
    have c1 : CC X n h (tI h (ndA X n + 11) m (Int32.ofNat (max i (mtM s n m) + 1))) := cc_nd (ch_tI (by unfold PNd; omega)) hn
    have m1 : MI (uA s 11 (5 * n + m) (Int32.ofNat (max i (mtM s n m) + 1))) g B K W := mi_next mi hn hm (by omega) (by omega) (by omega)
    have a1 := mq_nx (s' := uA s 11 (5 * n + m) (Int32.ofNat (max i (mtM s n m) + 1))) a c1 hn (rx_M w) (gle_refl g) (fun x j h1 h2 => mA_k _ _ _ _ (by omega))
    refine jo_step0 (s1 := uA s 11 (5 * n + m) (Int32.ofNat (max i (mtM s n m) + 1))) c1 (ex_uX (by decide)) (gle_refl g) (fin w1 m1 a1 ?_ ?_)
    · rw [mA_k _ _ _ _ (by decide)]; exact hu
    · rw [mA_k _ _ _ _ (by decide)]; exact h2
end
