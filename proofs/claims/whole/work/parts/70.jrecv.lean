/-! ===== a message is received ===== -/
/-- as JO, and what is committed is applied -/
def JA (X M B n D : Nat) (h : Hp) (s : MS) (g : GH) (K : Nat) (f : Option (Unit × Hp)) (r : Option (Unit × MS)) : Prop := ∃ h' s' g' K' W', f = some ((), h') ∧ r = some ((), s') ∧ CC X n h h' ∧ RX X M h' s' g' K' ∧ MI s' g' B K' W' ∧ GLe g g' ∧ EX n s s' ∧ K ≤ K' ∧ K' ≤ K + D ∧ (mA s' 1 n = 1 → hI h' (gq 5 10) (ndA X n) = mA s' 6 n)
section
variable {X M : Nat} {h : Hp} {s : MS} {g : GH} {B K W n m q k : Nat}
theorem jo_D {D D' : Nat} {f : Option (Unit × Hp)} {r : Option (Unit × MS)} (hD : D ≤ D') (j : JO X M B n D h s g K f r) : JO X M B n D' h s g K f r := by
  obtain ⟨h', s', g', K', W', a1, a2, a3, a4, a5, a6, a7, a8, a9⟩ := j
  exact ⟨h', s', g', K', W', a1, a2, a3, a4, a5, a6, a7, a8, by omega⟩
theorem ja_of {D : Nat} {f : Option (Unit × Hp)} {r : Option (Unit × MS)} (hn : n < 5) (hB : B ≤ 180) (hD : D ≤ 5) (j : JO X M B n D h s g K f r) : JA X M B n 5 h s g K (bd2 f fun _ h7 => fX5_receive_168 (ndA X n) h7) r := by
  obtain ⟨h', s', g', K', W', a1, a2, a3, a4, a5, a6, a7, a8, a9⟩ := j
  obtain ⟨h2, b1, b2, b3, b4⟩ := c_apply a4 a5 hn hB
  refine ⟨h2, s', g', K', W', ?_, a2, cc_trans a3 b2, b3, a5, a6, a7, a8, by omega, b4⟩
  rw [a1, bd2_some]
  unfold fX5_receive_168
  rw [if_pos (q_k5 a4 hn), b1, bd2_some]
theorem ja_step0 {D : Nat} {h1 : Hp} {s1 : MS} {g1 : GH} {f : Option (Unit × Hp)} {r : Option (Unit × MS)} (c : CC X n h h1) (e : EX n s s1) (gl : GLe g g1) (j : JA X M B n D h1 s1 g1 K f r) : JA X M B n D h s g K f r := by
  obtain ⟨h', s', g', K', W', a1, a2, a3, a4, a5, a6, a7, a8, a9, a10⟩ := j
  exact ⟨h', s', g', K', W', a1, a2, cc_trans c a3, a4, a5, gle_trans gl a6, ex_trans e a7, a8, a9, a10⟩
theorem rx_z (w : RX X M h s g K) (hn : n < 5) : ndA X n + 14 < hZ h := by
  have hM := rx_M w
  have hz : M + 40 ≤ hZ h := w.1.2.2.2.1
  unfold ndA; omega
theorem j_out (w : RX X M h s g K) (mi : MI s g B K W) (a : MQq X M h s g K q k m) (hn : n < 5) (hm : m < 5) (hnm : n ≠ m) (hB : B ≤ 1200) (hK' : K < 3000) (hap : hI h (gq 5 10) (ndA X n) = mA s 6 n) : JA X M B n 5 h s g K (bd2 (fX5_answerOutdated (ndA X n) q h) fun _ h19 => some ((), h19)) (bd (ldA s 11 15 (Int32.ofNat k)) fun z19 => if z19 = 0 then (bdm (gX10_answer (1 : Int32) (Int32.ofNat n) (Int32.ofNat m) (0 : Int32) s) fun _ s20 => gX10_got_82 (Int32.ofNat k) (Int32.ofNat n) (Int32.ofNat m) s20) else (gX10_got_82 (Int32.ofNat k) (Int32.ofNat n) (Int32.ofNat m) s)) := by
  have hk : k < 3000 := by have := a.1; omega
  obtain ⟨h', s', g', K', W', a1, a2, a3, a4, a5, a6, a7, a8, a9⟩ := j_old w mi a hn hm hnm hB hK'
  have p := pf_out (p10_refl h) _ _ a1
  have ndz := rx_z w hn
  refine ⟨h', s', g', K', W', by rw [a1, bd2_some], a2, a3, a4, a5, a6, a7, a8, by omega, fun _ => ?_⟩
  rw [p.2 _ (by omega), hap]
  rw [ld_15 hk, bd_some] at a2
  by_cases z : mA s 15 k = 0
  · rw [if_pos z, g_answer hn (mi_24 mi) hK', bdm_some] at a2
    unfold gX10_got_82 at a2
    have e : mA (oM K 1 (Int32.ofNat n) (Int32.ofNat m) (mA s 2 n) 0 0 0 0 s) 15 k = 0 := by rw [mA_oM, if_neg (by have := a.1; omega)]; exact z
    rw [ld_15 hk, bd_some, e, if_neg (by decide), bd_some, if_neg (by decide)] at a2
    have := (Prod.mk.inj (Option.some.inj a2)).2
    rw [← this, mA_oMx _ _ _ _ _ _ _ _ _ _ _ (by omega)]
  · rw [if_neg z] at a2
    unfold gX10_got_82 gX10_got_102 at a2
    simp only [ld_15 hk, bd_some, ld_5 hn, g_answer hn (mi_24 mi) hK', bdm_some] at a2
    split at a2
    · have := (Prod.mk.inj (Option.some.inj a2)).2
      rw [← this, mA_oMx _ _ _ _ _ _ _ _ _ _ _ (by omega)]
    · split at a2
      · have := (Prod.mk.inj (Option.some.inj a2)).2
        rw [← this, mA_oMx _ _ _ _ _ _ _ _ _ _ _ (by omega)]
      · have := (Prod.mk.inj (Option.some.inj a2)).2
        rw [← this]
theorem c_hv0 (w : RX X M h s g K) (a : MQq X M h s g K q k m) (hn : n < 5) (z : ¬ (mA s 8 n = 1 ∧ mA s 19 k = 1)) : fX5_handleVote (ndA X n) q h = some ((), h) := by
  unfold fX5_handleVote
  rw [q_role w hn, bd_some]
  by_cases z1 : mA s 8 n = 1
  · rw [if_pos z1, mq_4 a, bd_some, if_neg (fun e => z ⟨z1, e⟩)]
  · rw [if_neg z1]
theorem c_ha0 (w : RX X M h s g K) (hn : n < 5) (z : mA s 8 n ≠ 2) : fX5_handleAccept (ndA X n) q h = some ((), h) := by
  unfold fX5_handleAccept
  rw [q_role w hn, bd_some, if_neg z]
theorem c_hd0 (w : RX X M h s g K) (hn : n < 5) (z : mA s 8 n ≠ 2) : fX5_handleDenial (ndA X n) q h = some ((), h) := by
  unfold fX5_handleDenial
  rw [q_role w hn, bd_some, if_neg z]
theorem mi_gN {c T : Nat} (mi : MI s g B K W) (hc : gV g c T = c + 1) : gN g c T ≤ B := by
  obtain ⟨r, _, _, b, _⟩ := mi
  by_cases e : gN g c T = 0
  · omega
  · obtain ⟨_, _, _, q3, _⟩ := r.2.2.2.2.2.1 c T (gN g c T) hc (by omega) (Nat.le_refl _)
    exact Nat.le_trans q3 (b _)
theorem j_r57 (w : RX X M h s g K) (mi : MI s g B K W) (a : MQq X M h s g K q k m) (hn : n < 5) (hm : m < 5) (hnm : n ≠ m) (hB : B ≤ 180) (hK' : K + 5 < 3000) (hu : mA s 1 n = 1) (hl : lsM s n + 1 ≤ B) (h17 : mA s 17 k = Int32.ofNat n) (hle : mA s 18 k ≤ mA s 2 n) (hap : hI h (gq 5 10) (ndA X n) = mA s 6 n) : JA X M B n 5 h s g K (fX5_receive_57 (ndA X n) q h) (gX10_got_50 (Int32.ofNat k) (Int32.ofNat n) (Int32.ofNat m) s) := by
  have hk : k < 3000 := by have := a.1; omega
  obtain ⟨t, f, o, T, m1, m2, m3, m4, m5, m6, m7, m8, mb⟩ := mi.2.2.2.2.2.2.2.2.1 k a.1
  have ef : f = m := by have := m2.symm.trans a.2.2; rwa [io_eq (by omega) (by omega)] at this
  have eo : o = n := by have := m3.symm.trans h17; rwa [io_eq (by omega) (by omega)] at this
  subst ef; subst eo
  have tB := mi_tB mi o
  unfold fX5_receive_57 gX10_got_50
  rw [mq_3 a, bd_some, q_disk w hn, bd_some, onR_some, q_term w hn, bd_some, ld_18 hk, bd_some, ld_2 hn, bd_some]
  by_cases z : mA s 2 o ≤ mA s 18 k
  · rw [if_pos z, if_pos z, mq_0 a, bd_some, ld_15 hk, bd_some, m1]
    have eT : T = tmM s o := by
      rw [m4, mi_2 mi hn, io_le (by omega) (by omega)] at z hle
      omega
    subst eT
    rcases mb with ⟨b1, b2, b3, b4⟩ | ⟨b1, b2⟩ | ⟨b1, p, c, x, b2, b3, b4, b5, b6, b7, b8, b9, b10, b11, b12⟩ | ⟨b1, i, b2, b3, b4⟩ | ⟨b1, i, b2, b3⟩ | ⟨b1, b, x, b2, b3, b4, b5, b6, b7, b8, b9, b10⟩
    · subst b1
      rw [if_pos (show Int32.ofNat 0 = (0 : Int32) from rfl), if_pos (show Int32.ofNat 0 = (0 : Int32) from rfl), if_pos (q_k5 w hn)]
      have hN := mi_gN mi b2
      exact ja_of hn hB (by omega) (jo_idr (j_ask w mi a hn hm hnm (by omega) (by omega) b2 b3 b4 (by omega)))
    · subst b1
      rw [if_neg (show ¬ Int32.ofNat 1 = (0 : Int32) by decide), if_neg (show ¬ Int32.ofNat 1 = (0 : Int32) by decide), if_pos (show Int32.ofNat 1 = (1 : Int32) from rfl), if_pos (show Int32.ofNat 1 = (1 : Int32) from rfl), if_pos (q_k5 w hn), ld_8 hn, bd_some, ld_19 hk, bd_some]
      by_cases z1 : mA s 8 o = 1
      · rw [if_pos z1]
        by_cases z2 : mA s 19 k = 1
        · rw [if_pos z2]
          have hv : gV g f (tmM s o) = o + 1 := by
            rcases b2 with b2 | b2
            · rw [b2] at z2; exact absurd z2 (by decide)
            · exact b2.2
          exact ja_of hn hB (by omega) (jo_idr (j_vote w mi a hn hm hu z1 z2 hv (by omega) hl (by omega)))
        · rw [if_neg z2, c_hv0 w a hn (fun e => z2 e.2)]
          exact ja_of (D := 0) hn hB (by omega) (jo_here w mi)
      · rw [if_neg z1, c_hv0 w a hn (fun e => z1 e.1)]
        exact ja_of (D := 0) hn hB (by omega) (jo_here w mi)
    · subst b1
      rw [if_neg (show ¬ Int32.ofNat 2 = (0 : Int32) by decide), if_neg (show ¬ Int32.ofNat 2 = (0 : Int32) by decide), if_neg (show ¬ Int32.ofNat 2 = (1 : Int32) by decide), if_neg (show ¬ Int32.ofNat 2 = (1 : Int32) by decide), if_pos (show Int32.ofNat 2 = (2 : Int32) from rfl), if_pos (show Int32.ofNat 2 = (2 : Int32) from rfl), if_pos (q_k5 w hn)]
      exact ja_of hn hB (by omega) (jo_idr (j_append w mi a hn hm hnm (by omega) (by omega) hu (by omega) m1 b3 b4 b5 b6 b7 b8 b9 b10 b11 b12))
    · subst b1
      rw [if_neg (show ¬ Int32.ofNat 3 = (0 : Int32) by decide), if_neg (show ¬ Int32.ofNat 3 = (0 : Int32) by decide), if_neg (show ¬ Int32.ofNat 3 = (1 : Int32) by decide), if_neg (show ¬ Int32.ofNat 3 = (1 : Int32) by decide), if_neg (show ¬ Int32.ofNat 3 = (2 : Int32) by decide), if_neg (show ¬ Int32.ofNat 3 = (2 : Int32) by decide), if_pos (show Int32.ofNat 3 = (3 : Int32) from rfl), if_pos (show Int32.ofNat 3 = (3 : Int32) from rfl), if_pos (q_k5 w hn), ld_8 hn, bd_some, ld_19 hk, bd_some]
      by_cases z1 : mA s 8 o = 2
      · rw [if_pos z1, b2]
        exact ja_of hn hB (by omega) (jo_idr (j_accept w mi a hn hm hnm (by omega) (by omega) hu z1 b2 b3 b4))
      · rw [if_neg z1, c_ha0 w hn z1]
        exact ja_of (D := 0) hn hB (by omega) (jo_here w mi)
    · subst b1
      rw [if_neg (show ¬ Int32.ofNat 4 = (0 : Int32) by decide), if_neg (show ¬ Int32.ofNat 4 = (0 : Int32) by decide), if_neg (show ¬ Int32.ofNat 4 = (1 : Int32) by decide), if_neg (show ¬ Int32.ofNat 4 = (1 : Int32) by decide), if_neg (show ¬ Int32.ofNat 4 = (2 : Int32) by decide), if_neg (show ¬ Int32.ofNat 4 = (2 : Int32) by decide), if_neg (show ¬ Int32.ofNat 4 = (3 : Int32) by decide), if_neg (show ¬ Int32.ofNat 4 = (3 : Int32) by decide), if_pos (show Int32.ofNat 4 = (4 : Int32) from rfl), if_pos (show Int32.ofNat 4 = (4 : Int32) from rfl), if_pos (q_k5 w hn), ld_8 hn, bd_some]
      by_cases z1 : mA s 8 o = 2
      · rw [if_pos z1]
        exact ja_of hn hB (by omega) (j_denial w mi a hn hm hnm (by omega) (by omega) hu z1 hk b2 b3)
      · rw [if_neg z1, c_hd0 w hn z1]
        exact ja_of (D := 0) hn hB (by omega) (jo_here w mi)
    · subst b1
      rw [if_neg (show ¬ Int32.ofNat 5 = (0 : Int32) by decide), if_neg (show ¬ Int32.ofNat 5 = (0 : Int32) by decide), if_neg (show ¬ Int32.ofNat 5 = (1 : Int32) by decide), if_neg (show ¬ Int32.ofNat 5 = (1 : Int32) by decide), if_neg (show ¬ Int32.ofNat 5 = (2 : Int32) by decide), if_neg (show ¬ Int32.ofNat 5 = (2 : Int32) by decide), if_neg (show ¬ Int32.ofNat 5 = (3 : Int32) by decide), if_neg (show ¬ Int32.ofNat 5 = (3 : Int32) by decide), if_neg (show ¬ Int32.ofNat 5 = (4 : Int32) by decide), if_neg (show ¬ Int32.ofNat 5 = (4 : Int32) by decide), if_pos (show Int32.ofNat 5 = (5 : Int32) from rfl), if_pos (q_k5 w hn)]
      have w60 := mi_60 mi
      exact ja_of hn hB (by omega) (jo_idr (j_install w mi a hn hm hnm (by omega) (by omega) hu (by omega) m1 b3 b4 b5 (by omega) b7 b8 b9 b10))
  · rw [if_neg z, if_neg z, if_pos (q_k5 w hn)]
    exact j_out w mi a hn hm hnm (by omega) (by omega) hap
theorem c_isNode (hm : m < 5) : fX9_isNode (Int32.ofNat m) h = some (1, h) := by
  unfold fX9_isNode
  rw [if_neg (by rw [io_nn (by omega)]; exact id), if_neg (i5_le hm)]
theorem j_recv (w : RX X M h s g K) (mi : MI s g B K W) (a : MQq X M h s g K q k m) (hn : n < 5) (hm : m < 5) (hnm : n ≠ m) (hB : B ≤ 180) (hK' : K + 5 < 3000) (hu : mA s 1 n = 1) (hl : lsM s n + 1 ≤ B) (h17 : mA s 17 k = Int32.ofNat n) (hap : hI h (gq 5 10) (ndA X n) = mA s 6 n) : JA X M B n 5 h s g K (fX5_receive (ndA X n) q h) (gX10_got (Int32.ofNat k) (Int32.ofNat n) (Int32.ofNat m) s) := by
  have hk : k < 3000 := by have := a.1; omega
  obtain ⟨t, f, o, T, m1, m2, m3, m4, m5, m6, m7, m8, mb⟩ := mi.2.2.2.2.2.2.2.2.1 k a.1
  clear mb
  have tB := mi_tB mi n
  unfold fX5_receive gX10_got
  rw [q_up w hn, bd_some, hu, if_neg (by decide), mq_1 a, bd_some, c_isNode hm, bd2_some, if_neg (by decide)]
  simp only [mq_3 a, bd_some, q_disk w hn, onR_some, q_term w hn, ld_18 hk, ld_2 hn, if_pos (q_k1 w hn)]
  by_cases z : mA s 18 k ≤ mA s 2 n
  · simp only [if_pos z]
    exact j_r57 w mi a hn hm hnm hB hK' hu hl h17 z hap
  · simp only [if_neg z, c_vote w hn, g_record hn]
    by_cases p : mA s 10 n = 0
    · rw [if_pos p, if_pos p, if_pos trivial, bdm_some, if_pos rfl]
      refine ⟨_, _, g, K, W, rfl, rfl, cc_down hn rfl, rx_down w hn, mi_down mi hn, gle_refl g, ex_oD, Nat.le_refl _, by omega, fun e => ?_⟩
      unfold oD at e
      rw [mA_k _ _ _ _ (by decide), mA_k _ _ _ _ (by decide), mA_h] at e
      exact absurd e (by decide)
    · have wv := rx_vt w hn (mA s 18 k) (-1)
      have k5 := q_k5 wv hn
      have w2 := rx_role (r := 0) wv hn (by decide)
      rw [if_neg p, if_neg p, if_neg (by decide), pI_k k5, bd_some, bdm_some, if_neg (by decide), st_2 hn, bd_some, st_3 hn, bd_some, st_8 hn, bd_some, mA_oP _ _ _ (by decide)]
      have cv : CC X n h (cVt h (ndA X n + 13) (mA s 18 k) (-1)) := cc_vt hn _ _
      have i10 : hI (sI (cVt h (ndA X n + 13) (mA s 18 k) (-1)) (gq 5 4) (ndA X n) 0) (gq 5 10) (ndA X n) = hI h (gq 5 10) (ndA X n) := by
        rw [hI_sI, if_neg (fun q => absurd q.1 (by decide))]
        unfold cVt
        rw [hI_sI, if_neg (fun q => absurd q.1 (by decide)), hI_sI, if_neg (fun q => absurd q.1 (by decide))]
        unfold cP
        split
        · rfl
        · rw [hI_sI, if_neg (fun q => absurd q.1 (by decide))]
      have c2 : CC X n h (sI (cVt h (ndA X n + 13) (mA s 18 k) (-1)) (gq 5 4) (ndA X n) 0) := cc_trans cv (cc_nd (ch_sI (by unfold PNd; omega)) hn)
      generalize sI (cVt h (ndA X n + 13) (mA s 18 k) (-1)) (gq 5 4) (ndA X n) 0 = h1 at *
      have eo : uA (uA (uA (oP n s) 2 n (mA s 18 k)) 3 n (-1)) 8 n 0 = oT n T (oP n s) := by unfold oT; rw [m4]
      rw [eo] at w2 ⊢
      have lt : tmM s n < T := by
        rw [m4, mi_2 mi hn, io_le (by omega) (by omega)] at z
        omega
      have m2' := mi_bump (T := T) (mi_pow n mi) hn (by rw [oP_tm]; exact lt) m8 (by omega)
      have e15 : ∀ x i, 15 ≤ x → x ≤ 25 → mA (oT n T (oP n s)) x i = mA s x i := fun x i h1 h2 => by
        unfold oT
        rw [mA_k _ _ _ _ (by omega), mA_k _ _ _ _ (by omega), mA_k _ _ _ _ (by omega), mA_oP _ _ _ (by omega)]
      have a2 := mq_nx (s' := oT n T (oP n s)) a c2 hn (rx_M w) (gle_refl g) e15
      have ex : EX n s (oT n T (oP n s)) := ex_trans ex_oP (ex_trans (ex_trans (ex_uA (by decide)) (ex_uA (by decide))) (ex_uA (by decide)))
      have o1 : ∀ x, x ≠ 2 → x ≠ 3 → x ≠ 8 → x ≠ 10 → mA (oT n T (oP n s)) x n = mA s x n := fun x h1 h2 h3 h4 => by
        unfold oT
        rw [mA_k _ _ _ _ h3, mA_k _ _ _ _ h2, mA_k _ _ _ _ h1, mA_oP _ _ _ h4]
      refine ja_step0 c2 ex (gle_refl g) (j_r57 w2 m2' a2 hn hm hnm hB hK' ?_ ?_ ?_ ?_ ?_)
      · rw [o1 1 (by decide) (by decide) (by decide) (by decide)]; exact hu
      · unfold lsM; rw [o1 5 (by decide) (by decide) (by decide) (by decide)]; exact hl
      · rw [e15 17 k (by decide) (by decide)]; exact h17
      · rw [e15 18 k (by decide) (by decide), m4]
        unfold oT
        rw [mA_k _ _ _ _ (by decide), mA_k _ _ _ _ (by decide), mA_h]
        exact Int32.le_refl _
      · rw [i10, hap, o1 6 (by decide) (by decide) (by decide) (by decide)]
end
