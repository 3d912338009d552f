/-! ===== more, shrink, crash, start, power ===== -/
section
variable {X M j : Nat} {h : Hp} {s : MS} {g : GH} {B K W n : Nat}
def cMo (h : Hp) (X : Nat) (a b c d : Int32) : Hp := sI (sI (sI (sI h (gq 9 3) X a) (gq 9 4) X b) (gq 9 5) X c) (gq 9 6) X d
def oMo (a b c d : Int32) (s : MS) : MS := uF (uF (uF (uF (uF s 0 0) 28 a) 29 b) 30 c) 31 d
theorem ch_mo {a b c d : Int32} : Ch h (cMo h X a b c d) (fun x => x = X) := ch_trans (ch_trans (ch_trans (ch_sI rfl) (ch_sI rfl)) (ch_sI rfl)) (ch_sI rfl)
theorem mF_oMo {a b c d : Int32} {f : Nat} (hf : f ≠ 0 ∧ (f < 28 ∨ 31 < f)) : mF (oMo a b c d s) f = mF s f := by
  unfold oMo
  rw [mF_n _ _ (by omega), mF_n _ _ (by omega), mF_n _ _ (by omega), mF_n _ _ (by omega), mF_n _ _ (by omega)]
theorem rx_more {a b c d : Int32} (w : RX X M h s g K) : RX X M (cMo h X a b c d) (oMo a b c d s) g K := by
  obtain ⟨w1, w2, w3, w4, w5⟩ := w
  have hM : M = X + 92 := w1.2.2.2.2
  have hz : M + 40 ≤ hZ h := w1.2.2.2.1
  have fr : Fr X M h (cMo h X a b c d) := fr_ch ch_mo (fun x q => by omega)
  have sa : ∀ x, x ≠ X → x < hZ h → SA h (cMo h X a b c d) x := fun x hx hx' => ch_mo.2 x hx' hx
  refine ⟨st_sa w1 ch_mo.1 (fun x _ _ => ⟨fun _ _ => rfl, rfl, fun _ => rfl⟩), fun v hv => nd_fr fr (gle_refl g) (fun x h1 h2 => sa x (by unfold ndA at *; omega) (by unfold ndA at *; omega)) (fun _ _ _ => rfl) (fun _ _ _ _ => rfl) (fun _ => rfl) (w2 v hv), ml_fr fr (gle_refl g) (sa _ (by omega) (by omega)) (sa _ (by omega) (by omega)) (fun _ _ _ _ => rfl) (mF_oMo (by omega)) (mF_oMo (by omega)) w3, wi_fr fr (gle_refl g) (fun _ => rfl) (sa _ (by omega) (by omega)) (sa _ (by omega) (by omega)) (sa _ (by omega) (by omega)) w4, ?_⟩
  unfold cMo oMo
  refine ⟨?_, ?_, ?_, ?_⟩
  · rw [hI_sI, if_neg (fun q => absurd q.1 (by decide)), hI_sI, if_neg (fun q => absurd q.1 (by decide)), hI_sI, if_neg (fun q => absurd q.1 (by decide)), hI_sI, if_pos ⟨rfl, rfl⟩, mF_n _ _ (by decide), mF_n _ _ (by decide), mF_n _ _ (by decide), mF_uF, if_pos rfl]
  · rw [hI_sI, if_neg (fun q => absurd q.1 (by decide)), hI_sI, if_neg (fun q => absurd q.1 (by decide)), hI_sI, if_pos ⟨rfl, rfl⟩, mF_n _ _ (by decide), mF_n _ _ (by decide), mF_uF, if_pos rfl]
  · rw [hI_sI, if_neg (fun q => absurd q.1 (by decide)), hI_sI, if_pos ⟨rfl, rfl⟩, mF_n _ _ (by decide), mF_uF, if_pos rfl]
  · rw [hI_sI, if_pos ⟨rfl, rfl⟩, mF_uF, if_pos rfl]
theorem law_more (J : JJ X M j h) (a b c d : Int32) : OKm (JJ X M (j + 1)) X M h (fX9_more X a b c d) (fX10_more M a b c d) := by
  obtain ⟨s, kp, g, K, W, w, mi0, ca, ap, hk⟩ := J
  have hM := rx_M w
  have hz : M + 40 ≤ hZ h := w.1.2.2.2.1
  have mi := mi_B (Nat.le_succ j) mi0
  have er : ∀ H, MW M H → fX10_more M a b c d (pm M H s) = lft M H (gX10_more a b c d s) := fun H hw => eX10_more hw a b c d s
  refine ok_m (h1 := cMo h X a b c d) (s' := oMo a b c d s) (q_kX w) ?_ er rfl (kp_sa kp (fun x h1 h2 => ch_mo.2 x (by omega) (by omega))) ⟨g, K, W, rx_more w, mi_frame mi (fun _ _ _ _ _ _ => rfl) (mF_oMo (by omega)) (mF_oMo (by omega)), ca_ext (s := s) (gle_refl g) (fun _ _ _ => rfl) (fun k hk => mF_oMo (by omega)) ca, fun n hn hu => ?_, by omega⟩
  · unfold fX9_more
    have k0 := q_kX w
    rw [pI_k k0, bd_some, pI_k ((hK_sI _ _ _ _ _).trans k0), bd_some, pI_k ((hK_sI _ _ _ _ _).trans ((hK_sI _ _ _ _ _).trans k0)), bd_some, pI_k ((hK_sI _ _ _ _ _).trans ((hK_sI _ _ _ _ _).trans ((hK_sI _ _ _ _ _).trans k0))), bd_some]
    rfl
  · have e := ap n hn hu
    unfold cMo
    rw [hI_sI, if_neg (fun q => absurd q.1 (by decide)), hI_sI, if_neg (fun q => absurd q.1 (by decide)), hI_sI, if_neg (fun q => absurd q.1 (by decide)), hI_sI, if_neg (fun q => absurd q.1 (by decide))]
    exact e
/-- BASE and COMMIT the same: so is what was applied -/
theorem ap_tight (w : RX X M h s g K) (mi : MI s g B K W) (hn : n < 5) (hu : mA s 1 n = 1) (e : bsM s n = cmM s n) : hI h (gq 5 10) (ndA X n) = mA s 6 n := by
  obtain ⟨ap, x, T, a1, a2, a3, _⟩ := (rx_n w hn).2.2.2 hu
  have : ap = cmM s n := by omega
  rw [a1, mi_6 mi hn hu, this]
theorem law_shrink (hj : j < 64) (J : JJ X M j h) (x : Int32) : OKi (JJ X M (j + 1)) M (M + 39) h (fL_shrink X x (M + 39)) (fX10_shrink M x) := by
  obtain ⟨s, kp, g, K, W, w, mi0, ca, ap, hk⟩ := J
  have hM := rx_M w
  have hz : M + 40 ≤ hZ h := w.1.2.2.2.1
  have mi := mi_B (Nat.le_succ j) mi0
  have fn : FN X M (j + 1) h s := ⟨g, K, W, w, mi, ca, ap, by omega⟩
  have er : ∀ H, MW M H → fX10_shrink M x (pm M H s) = lft M H (gX10_shrink x s) := fun H hw => eX10_shrink hw x s
  rcases nd_cs x with z | ⟨n, hn, rfl⟩
  · refine ok_i (k := 1) (h1 := h) (s' := uF s 0 1) (b := 0) ?_ er ?_ mF_h0 (fun q => absurd q (by decide)) kp (fn_F fn)
    · unfold fL_shrink fX9_shrink
      rw [if_pos (q_kX w), if_pos (q_kX w), c_nodeNo w z, bdx_inr, bdc_inr, if_pos rfl]
    · unfold gX10_shrink gX10_shrink_13
      rw [g_noN z, bdm_some, if_pos rfl, g_bad1, bdm_some, if_neg (by decide)]
  · obtain ⟨q, y, T, q1, q2, q3, q4⟩ := q_snap w hn
    by_cases u : mA s 1 n = 0
    · refine ok_i (k := 2) (h1 := h) (s' := uF (uF s 0 0) 0 2) (b := 0) ?_ er ?_ mF_h0 (fun q => absurd q (by decide)) kp (fn_F (fn_F fn))
      · unfold fL_shrink fX9_shrink
        rw [if_pos (q_kX w), if_pos (q_kX w), c_nodeAt w hn, bdx_inl, onR_some, c_reqUp0 w hn u, bdx_inr, bdc_inr, if_neg (by decide), if_pos rfl]
      · unfold gX10_shrink gX10_shrink_13 gX10_shrink_45 gX10_shrink_50
        rw [g_isN hn, bdm_some, if_neg (by decide), g_bad0, bdm_some, if_pos rfl, ld_1 hn, bd_some, mA_uF, if_pos u, g_bad1, bdm_some, if_neg (by decide)]
    · have hu : mA s 1 n = 1 := (mi.2.1 n hn).1.resolve_left u
      by_cases z : mA s 6 n = mA s 4 n
      · refine ok_i (k := 2) (h1 := h) (s' := uF (uF s 0 0) 0 2) (b := 0) ?_ er ?_ mF_h0 (fun q => absurd q (by decide)) kp (fn_F (fn_F fn))
        · unfold fL_shrink fX9_shrink
          rw [if_pos (q_kX w), if_pos (q_kX w), c_nodeAt w hn, bdx_inl, onR_some, c_reqUp1 w hn hu, bdx_inl, q_comU w hn hu, bd_some, q_disk w hn, bd_some, onR_some, q1, bd_some, onR_some, sv_b q4, bd_some, if_pos z, bdc_inr, if_neg (by decide), if_pos rfl]
        · unfold gX10_shrink gX10_shrink_13 gX10_shrink_45 gX10_shrink_50
          rw [g_isN hn, bdm_some, if_neg (by decide), g_bad0, bdm_some, if_pos rfl, ld_1 hn, bd_some, mA_uF, if_neg u, ld_6 hn, bd_some, ld_4 hn, bd_some, mA_uF, mA_uF, if_pos z, g_bad1, bdm_some, if_neg (by decide)]
      · have fn2 : FN X M (j + 1) h (uF (uF s 0 0) 0 0) := fn_F (fn_F fn)
        have z' : ¬ mA (uF (uF s 0 0) 0 0) 6 n = mA (uF (uF s 0 0) 0 0) 4 n := z
        have hu' : mA (uF (uF s 0 0) 0 0) 1 n = 1 := hu
        have t0 : mF (uF (uF s 0 0) 0 0) 0 = 0 := mF_h0
        have er2 : gX10_shrink (Int32.ofNat n) s = bdm (gX10_record (Int32.ofNat n) (uF (uF s 0 0) 0 0)) fun z2 s2 => if z2 = 0 then (bd (ldA s2 11 4 (Int32.ofNat n)) fun z3 => some (z3, s2)) else (bd (ldA s2 11 6 (Int32.ofNat n)) fun z4 => bd (stA s2 11 4 (Int32.ofNat n) z4) fun s5 => bd (ldA s5 11 4 (Int32.ofNat n)) fun z6 => some (z6, s5)) := by
          unfold gX10_shrink gX10_shrink_13 gX10_shrink_50
          rw [g_isN hn, bdm_some, if_neg (by decide), g_bad0, bdm_some, if_pos rfl, ld_1 hn, bd_some, mA_uF, if_neg u, ld_6 hn, bd_some, ld_4 hn, bd_some, mA_uF, mA_uF, if_neg z, g_bad0, bdm_some, if_pos rfl]
        have fw : fL_shrink X (Int32.ofNat n) (M + 39) h = bdc (bd2 (fX5_takeSnapshot (ndA X n) h) fun _ h11 => bd (gR h11 5 0 (ndA X n)) fun z12 => onR z12 (none) fun a13 => bd (gR h11 1 3 a13) fun z14 => onR z14 (none) fun a15 => bd (gI h11 6 1 a15) fun z16 => some (.inl z16, h11)) (fun z1 h1 => bd (stL h1 12 (M + 39) (0 : Int32) (z1.toInt64)) fun h2 => some ((0 : Int32), h2)) (fun k h1 => if k = 0 then some ((1 : Int32), h1) else (if k = 1 then some ((2 : Int32), h1) else (none))) := by
          unfold fL_shrink fX9_shrink
          rw [if_pos (q_kX w), if_pos (q_kX w), c_nodeAt w hn, bdx_inl, onR_some, c_reqUp1 w hn hu, bdx_inl, q_comU w hn hu, bd_some, q_disk w hn, bd_some, onR_some, q1, bd_some, onR_some, sv_b q4, bd_some, if_neg z, if_pos (q_k5 w hn)]
        clear u hu z fn q1 q2 q3 q4 ca ap
        generalize uF (uF s 0 0) 0 0 = s1 at *
        obtain ⟨g, K, W, w, mi, ca, ap, hk⟩ := fn2
        obtain ⟨h', a1, a2, a3⟩ := c_shrink w mi hn (by omega) hu' (ap n hn hu')
        have key : ∀ s', RX X M h' s' g K → MI s' g (j + 1) K W → EX n s1 s' → (mA s' 1 n = 1 → hI h' (gq 5 10) (ndA X n) = mA s' 6 n) → gX10_shrink (Int32.ofNat n) s = some (mA s' 4 n, s') → OKi (JJ X M (j + 1)) M (M + 39) h (fL_shrink X (Int32.ofNat n) (M + 39)) (fX10_shrink M (Int32.ofNat n)) := by
          intro s' w' m' ex' ap' er'
          obtain ⟨q, y, T, q1, q2, q3, q4⟩ := q_snap w' hn
          refine ok_iv (h1 := h') (s' := s') (b := mA s' 4 n) ?_ er er' (by rw [ex'.2.1 0 (by decide) (by decide), t0]) (kp_cc kp a2 hn hM hz) (fn_call ca ap a2 ex' hn hM hz w' m' (gle_refl g) ap' hk)
          rw [fw, a1, bd2_some, q_disk w' hn, bd_some, onR_some, q1, bd_some, onR_some, sv_b q4, bd_some, bdc_inl]
        by_cases p : mA s1 10 n = 0
        · rw [if_pos p] at a3
          refine key _ a3 (mi_down mi hn) ex_oD (fun e => down_ap e) ?_
          rw [er2, g_record hn, if_pos p, bdm_some, if_pos rfl, ld_4 hn, bd_some]
        · rw [if_neg p] at a3
          have e6 : mA (oP n s1) 6 n = mA s1 6 n := mA_oP _ _ _ (by decide)
          have m2 := mi_shrink (mi_pow n mi) hn (by rw [mA_oP _ _ _ (by decide)]; exact hu')
          rw [e6] at m2
          have up : mA (uA (oP n s1) 4 n (mA s1 6 n)) 1 n = 1 := by rw [mA_k _ _ _ _ (by decide), mA_oP _ _ _ (by decide)]; exact hu'
          refine key _ a3 m2 (ex_trans ex_oP (ex_uA (by decide))) (fun _ => ap_tight a3 m2 hn up ?_) ?_
          · unfold bsM cmM
            rw [if_neg (by rw [up]; decide), mA_h, mA_k _ _ _ _ (by decide), e6]
          · rw [er2, g_record hn, if_neg p, bdm_some, if_neg (by decide), ld_6 hn, bd_some, st_4 hn, bd_some, ld_4 hn, bd_some, e6]
theorem g_dn (hn : n < 5) : gX10_down (Int32.ofNat n) s = some ((), oD n s) := by
  unfold gX10_down
  rw [s0_1 hn, bd_some, st_8 hn, bd_some, st_10 hn, bd_some]
  rfl
theorem law_crash (J : JJ X M j h) (x : Int32) : OKv (JJ X M (j + 1)) M h (fL_crash X x) (fX10_crash M x) := by
  obtain ⟨s, kp, g, K, W, w, mi0, ca, ap, hk⟩ := J
  have hM := rx_M w
  have hz : M + 40 ≤ hZ h := w.1.2.2.2.1
  have mi := mi_B (Nat.le_succ j) mi0
  have fn : FN X M (j + 1) h s := ⟨g, K, W, w, mi, ca, ap, by omega⟩
  have er : ∀ H, MW M H → fX10_crash M x (pm M H s) = lft M H (gX10_crash x s) := fun H hw => eX10_crash hw x s
  rcases nd_cs x with z | ⟨n, hn, rfl⟩
  · refine ok_v (k := 1) (h1 := h) (s' := uF s 0 1) ?_ er ?_ mF_h0 kp (fn_F fn)
    · unfold fL_crash fX9_crash
      rw [if_pos (q_kX w), if_pos (q_kX w), c_nodeNo w z, bdx_inr, bdc_inr, if_pos rfl]
    · unfold gX10_crash gX10_crash_13
      rw [g_noN z, bdm_some, if_pos rfl, g_bad1, bdm_some, if_neg (by decide)]
  · by_cases u : mA s 1 n = 0
    · refine ok_v (k := 2) (h1 := h) (s' := uF (uF s 0 0) 0 2) ?_ er ?_ mF_h0 kp (fn_F (fn_F fn))
      · unfold fL_crash fX9_crash
        rw [if_pos (q_kX w), if_pos (q_kX w), c_nodeAt w hn, bdx_inl, onR_some, c_reqUp0 w hn u, bdx_inr, bdc_inr, if_neg (by decide), if_pos rfl]
      · unfold gX10_crash gX10_crash_13 gX10_crash_35
        rw [g_isN hn, bdm_some, if_neg (by decide), g_bad0, bdm_some, if_pos rfl, ld_1 hn, bd_some, mA_uF, if_pos u, g_bad1, bdm_some, if_neg (by decide)]
    · have hu : mA s 1 n = 1 := (mi.2.1 n hn).1.resolve_left u
      obtain ⟨g2, K2, W2, w2, mi2, ca2, ap2, hk2⟩ := fn_F (v := 0) (fn_F (v := 0) fn)
      refine ok_v (k := 0) (h1 := cDn h (ndA X n) (mA (uF (uF s 0 0) 0 0) 4 n)) (s' := oD n (uF (uF s 0 0) 0 0)) ?_ er ?_ (by rw [mF_oD, mF_h0]) (kp_cc kp (cc_down hn rfl) hn hM hz) (fn_call ca2 ap2 (cc_down hn rfl) ex_oD hn hM hz (rx_down w2 hn) (mi_down mi2 hn) (gle_refl g2) (fun e => down_ap e) hk2)
      · unfold fL_crash fX9_crash
        rw [if_pos (q_kX w), if_pos (q_kX w), c_nodeAt w hn, bdx_inl, onR_some, c_reqUp1 w hn hu, bdx_inl, if_pos (q_k5 w hn), c_goDown w hn, bd2_some, bdc_inl]
        rfl
      · unfold gX10_crash gX10_crash_13 gX10_crash_35
        rw [g_isN hn, bdm_some, if_neg (by decide), g_bad0, bdm_some, if_pos rfl, ld_1 hn, bd_some, mA_uF, if_neg u, g_bad0, bdm_some, if_pos rfl, g_dn hn, bdm_some]
theorem ex_oU : EX n s (oU n s) := ex_trans (ex_trans (ex_trans (ex_uA (by decide)) (ex_uA (by decide))) (ex_uA (by decide))) (ex_uA (by decide))
theorem law_start (J : JJ X M j h) (x : Int32) : OKi (JJ X M (j + 1)) M (M + 39) h (fL_start X x (M + 39)) (fX10_start M x) := by
  obtain ⟨s, kp, g, K, W, w, mi0, ca, ap, hk⟩ := J
  have hM := rx_M w
  have hz : M + 40 ≤ hZ h := w.1.2.2.2.1
  have mi := mi_B (Nat.le_succ j) mi0
  have fn : FN X M (j + 1) h s := ⟨g, K, W, w, mi, ca, ap, by omega⟩
  have er : ∀ H, MW M H → fX10_start M x (pm M H s) = lft M H (gX10_start x s) := fun H hw => eX10_start hw x s
  rcases nd_cs x with z | ⟨n, hn, rfl⟩
  · refine ok_i (k := 1) (h1 := h) (s' := uF s 0 1) (b := 0) ?_ er ?_ mF_h0 (fun q => absurd q (by decide)) kp (fn_F fn)
    · unfold fL_start fX9_start
      rw [if_pos (q_kX w), if_pos (q_kX w), c_nodeNo w z, bdx_inr, bdc_inr, if_pos rfl]
    · unfold gX10_start gX10_start_13
      rw [g_noN z, bdm_some, if_pos rfl, g_bad1, bdm_some, if_neg (by decide)]
  · by_cases u : mA s 1 n = 0
    · obtain ⟨g2, K2, W2, w2, mi2, ca2, ap2, hk2⟩ := fn_F (v := 0) (fn_F (v := 0) fn)
      obtain ⟨h', a1, a2, a3⟩ := rx_start w2 mi2 hn u
      have m3 := mi_start mi2 hn u
      have up : mA (oU n (uF (uF s 0 0) 0 0)) 1 n = 1 := by
        unfold oU
        rw [mA_k _ _ _ _ (by decide), mA_k _ _ _ _ (by decide), mA_k _ _ _ _ (by decide), mA_h]
      have e6 : bsM (oU n (uF (uF s 0 0) 0 0)) n = cmM (oU n (uF (uF s 0 0) 0 0)) n := by
        unfold bsM cmM
        rw [if_neg (by rw [up]; decide)]
        unfold oU
        rw [mA_k _ _ _ _ (by decide), mA_k _ _ _ _ (by decide), mA_k _ _ _ _ (by decide), mA_k _ _ _ _ (by decide), mA_k _ _ _ _ (by decide), mA_k _ _ _ _ (by decide), mA_h]
      have l5 : mA (oU n (uF (uF s 0 0) 0 0)) 5 n = mA s 5 n := by
        unfold oU
        rw [mA_k _ _ _ _ (by decide), mA_k _ _ _ _ (by decide), mA_k _ _ _ _ (by decide), mA_k _ _ _ _ (by decide)]
        rfl
      refine ok_iv (h1 := h') (s' := oU n (uF (uF s 0 0) 0 0)) (b := mA s 5 n) ?_ er ?_ (mF_h0 (s := uF s 0 0) (v := 0)) (kp_cc kp a2 hn hM hz) (fn_call ca2 ap2 a2 ex_oU hn hM hz a3 m3 (gle_refl g2) (fun _ => ap_tight a3 m3 hn up e6) hk2)
      · unfold fL_start fX9_start
        rw [if_pos (q_kX w), if_pos (q_kX w), c_nodeAt w hn, bdx_inl, onR_some, q_up w hn, bd_some, if_pos u, if_pos (q_k5 w hn), a1, bd2_some, q_disk a3 hn, bd_some, onR_some, q_last a3 hn, bd_some, bdc_inl, l5]
      · unfold gX10_start gX10_start_13
        rw [g_isN hn, bdm_some, if_neg (by decide), g_bad0, bdm_some, if_pos rfl, ld_1 hn, bd_some, mA_uF, u, g_bad0, bdm_some, if_pos rfl, s1_1 hn, bd_some, ld_4 hn, bd_some, st_6 hn, bd_some, ld_4 hn, bd_some, st_7 hn, bd_some, st_9 hn, bd_some, ld_5 hn, bd_some]
        have eo : uA (uA (uA (uA (uF (uF s 0 0) 0 0) 1 n 1) 6 n (mA (uA (uF (uF s 0 0) 0 0) 1 n 1) 4 n)) 7 n (mA (uA (uA (uF (uF s 0 0) 0 0) 1 n 1) 6 n (mA (uA (uF (uF s 0 0) 0 0) 1 n 1) 4 n)) 4 n)) 9 n 0 = oU n (uF (uF s 0 0) 0 0) := by
          unfold oU
          rw [mA_k (uA (uF (uF s 0 0) 0 0) 1 n 1) _ _ _ (show 4 ≠ 6 by decide), mA_k (uF (uF s 0 0) 0 0) _ _ _ (show 4 ≠ 1 by decide)]
        rw [eo, l5]
    · have hu : mA s 1 n = 1 := (mi.2.1 n hn).1.resolve_left u
      refine ok_i (k := 2) (h1 := h) (s' := uF (uF s 0 0) 0 2) (b := 0) ?_ er ?_ mF_h0 (fun q => absurd q (by decide)) kp (fn_F (fn_F fn))
      · unfold fL_start fX9_start
        rw [if_pos (q_kX w), if_pos (q_kX w), c_nodeAt w hn, bdx_inl, onR_some, q_up w hn, bd_some, if_neg u, bdc_inr, if_neg (by decide), if_pos rfl]
      · unfold gX10_start gX10_start_13
        rw [g_isN hn, bdm_some, if_neg (by decide), g_bad0, bdm_some, if_pos rfl, ld_1 hn, bd_some, mA_uF, hu, g_bad1, bdm_some, if_neg (by decide)]
theorem law_power (J : JJ X M j h) (x y : Int32) : OKv (JJ X M (j + 1)) M h (fL_power X x y) (fX10_power M x y) := by
  obtain ⟨s, kp, g, K, W, w, mi0, ca, ap, hk⟩ := J
  have hM := rx_M w
  have hz : M + 40 ≤ hZ h := w.1.2.2.2.1
  have mi := mi_B (Nat.le_succ j) mi0
  have fn : FN X M (j + 1) h s := ⟨g, K, W, w, mi, ca, ap, by omega⟩
  have er : ∀ H, MW M H → fX10_power M x y (pm M H s) = lft M H (gX10_power x y s) := fun H hw => eX10_power hw x y s
  rcases nd_cs x with z | ⟨n, hn, rfl⟩
  · refine ok_v (k := 1) (h1 := h) (s' := uF s 0 1) ?_ er ?_ mF_h0 kp (fn_F fn)
    · unfold fL_power fX9_power
      rw [if_pos (q_kX w), if_pos (q_kX w), c_nodeNo w z, bdx_inr, bdc_inr, if_pos rfl]
    · unfold gX10_power gX10_power_13
      rw [g_noN z, bdm_some, if_pos rfl, g_bad1, bdm_some, if_neg (by decide)]
  · have no : (y < (-1 : Int32) ∨ ¬ y ≤ (100 : Int32)) → OKv (JJ X M (j + 1)) M h (fL_power X (Int32.ofNat n) y) (fX10_power M (Int32.ofNat n) y) := by
      intro z
      refine ok_v (k := 2) (h1 := h) (s' := uF (uF s 0 0) 0 2) ?_ er ?_ mF_h0 kp (fn_F (fn_F fn))
      · unfold fL_power fX9_power fX9_power_17
        rw [if_pos (q_kX w), if_pos (q_kX w), c_nodeAt w hn, bdx_inl, onR_some]
        by_cases u : y < (-1 : Int32)
        · rw [if_pos u, bdc_inr, if_neg (by decide), if_pos rfl]
        · rw [if_neg u, if_neg (z.resolve_left u), bdc_inr, if_neg (by decide), if_pos rfl]
      · unfold gX10_power gX10_power_13 gX10_power_32 gX10_power_37
        rw [g_isN hn, bdm_some, if_neg (by decide), g_bad0, bdm_some, if_pos rfl]
        by_cases u : y < (-1 : Int32)
        · rw [if_pos u, g_bad1, bdm_some, if_neg (by decide)]
        · rw [if_neg u, if_neg (z.resolve_left u), g_bad1, bdm_some, if_neg (by decide)]
    by_cases u : y < (-1 : Int32)
    · exact no (Or.inl u)
    · by_cases v : y ≤ (100 : Int32)
      · obtain ⟨g2, K2, W2, w2, mi2, ca2, ap2, hk2⟩ := fn_F (v := 0) (fn_F (v := 0) fn)
        have c1 : CC X n h (sI h (gq 1 4) (ndA X n + 13) y) := cc_nd (ch_sI (by unfold PNd; omega)) hn
        refine ok_v (k := 0) (h1 := sI h (gq 1 4) (ndA X n + 13) y) (s' := uA (uF (uF s 0 0) 0 0) 10 n y) ?_ er ?_ (mF_h0 (s := uF s 0 0) (v := 0)) (kp_cc kp c1 hn hM hz) (fn_call ca2 ap2 c1 (ex_uA (by decide)) hn hM hz (rx_left w2 hn) (mi_frame mi2 (fun a i _ ha _ _ => mA_k _ _ _ _ ha) rfl rfl) (gle_refl g2) (fun e => ?_) hk2)
        · unfold fL_power fX9_power
          rw [if_pos (q_kX w), if_pos (q_kX w), c_nodeAt w hn, bdx_inl, onR_some, if_neg u, if_pos v, q_disk w hn, bd_some, onR_some, pI_k (q_k1 w hn), bd_some, bdc_inl]
        · unfold gX10_power gX10_power_13 gX10_power_37
          rw [g_isN hn, bdm_some, if_neg (by decide), g_bad0, bdm_some, if_pos rfl, if_neg u, if_pos v, g_bad0, bdm_some, if_pos rfl, st_10 hn, bd_some]
        · rw [mA_k _ _ _ _ (by decide)] at e
          rw [hI_sI, if_neg (fun q => absurd q.1 (by decide)), mA_k _ _ _ _ (by decide)]
          exact ap2 n hn e
      · exact no (Or.inr v)
end
