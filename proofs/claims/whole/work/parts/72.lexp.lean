/-! ===== expire, deliver, beat ===== -/
section
variable {X M j : Nat} {h : Hp} {s : MS} {g : GH} {B K W n : Nat}
theorem mA_oDu (n : Nat) (s : MS) : mA (oD n s) 1 n = 0 := by
  unfold oD
  rw [mA_k _ _ _ _ (by decide), mA_k _ _ _ _ (by decide), mA_h]
theorem down_ap {P : Prop} (e : mA (oD n s) 1 n = 1) : P := by
  rw [mA_oDu] at e; exact absurd e (by decide)
theorem hI_cVt {T v : Int32} {d x : Nat} : hI (cVt h d T v) (gq 5 10) x = hI h (gq 5 10) x := by
  unfold cVt
  rw [hI_sI, if_neg (fun q => absurd q.1 (by decide)), hI_sI, if_neg (fun q => absurd q.1 (by decide))]
  unfold cP
  split
  · rfl
  · rw [hI_sI, if_neg (fun q => absurd q.1 (by decide))]
theorem j_stand2 (w : RX X M h s g K) (mi : MI s g B K W) (hn : n < 5) (hu : mA s 1 n = 1) (hB : B ≤ 1200) (hT : tmM s n + 1 ≤ B) (hK' : K + 5 < 3000) (hap : hI h (gq 5 10) (ndA X n) = mA s 6 n) : ∃ h' s' g' K' W', fX5_standForElection (ndA X n) h = some ((), h') ∧ gX10_expire_45 (Int32.ofNat n) 0 s = some (mF s' 24 - mF s 24, s') ∧ CC X n h h' ∧ RX X M h' s' g' K' ∧ MI s' g' B K' W' ∧ GLe g g' ∧ EX n (uF s 0 0) s' ∧ K ≤ K' ∧ K' ≤ K + 5 ∧ (mA s' 1 n = 1 → hI h' (gq 5 10) (ndA X n) = mA s' 6 n) := by
  have w0 : RX X M h (uF s 0 0) g K := rx_F w (by decide)
  have mi0 : MI (uF s 0 0) g B K W := mi_F mi (by decide)
  have m24 : mF s 24 = mF (uF s 0 0) 24 := (mF_n s 0 (by decide)).symm
  rw [m24]
  have red : gX10_expire_45 (Int32.ofNat n) 0 s = bdm (gX10_record (Int32.ofNat n) (uF s 0 0)) fun z3 s3 => if z3 = 0 then (some ((0 : Int32), s3)) else (bd (ldA s3 11 2 (Int32.ofNat n)) fun z4 => bd (stA s3 11 2 (Int32.ofNat n) (z4 + (1 : Int32))) fun s5 => bd (stA s5 11 3 (Int32.ofNat n) (Int32.ofNat n)) fun s6 => bd (stA s6 11 8 (Int32.ofNat n) (1 : Int32)) fun s7 => bd (stA s7 11 9 (Int32.ofNat n) ((1 : Int32) <<< (Int32.ofNat n &&& 31))) fun s8 => gX10_expire_104 LF (Int32.ofNat n) (mF (uF s 0 0) 24) (0 : Int32) s8) := by
    unfold gX10_expire_45; rw [g_bad0]; rfl
  rw [red]
  have hu0 : mA (uF s 0 0) 1 n = 1 := hu
  have hT0 : tmM (uF s 0 0) n + 1 ≤ B := hT
  have hap0 : hI h (gq 5 10) (ndA X n) = mA (uF s 0 0) 6 n := hap
  clear red w mi hu hT m24 hap
  generalize uF s 0 0 = s at *
  have lsB := mi_ls mi0 n
  unfold fX5_standForElection
  rw [q_disk w0 hn, bd_some, onR_some, bd_some, onR_some, q_term w0 hn, bd_some, q_num w0 hn, bd_some, if_pos (q_k1 w0 hn), c_vote w0 hn, g_record hn]
  by_cases z : mA s 10 n = 0
  · rw [if_pos z, if_pos z, if_pos rfl, bdm_some, if_pos rfl]
    refine ⟨_, _, g, K, W, rfl, ?_, cc_down hn rfl, rx_down w0 hn, mi_down mi0 hn, gle_refl g, ex_oD, Nat.le_refl _, by omega, fun e => down_ap e⟩
    rw [mF_oD, Int32.sub_self]
  · rw [if_neg z, if_neg z, if_neg (by decide), bdm_some, if_neg (by decide), ld_2 hn, bd_some, st_2 hn, bd_some, st_3 hn, bd_some, st_8 hn, bd_some, sh_n hn, st_9 hn, bd_some]
    have e : mA (oP n s) 2 n + 1 = Int32.ofNat (tmM (oP n s) n + 1) := by rw [oP_tm, mA_oP _ _ _ (by decide), ← io_a1, ← mi_2 mi0 hn]
    have m1 := mi_pow n mi0
    obtain ⟨m2, gl⟩ := mi_stand m1 hn (by rw [mA_oP _ _ _ (by decide)]; exact hu0) (by rw [oP_tm]; exact hT0) (by omega)
    have w2 := rx_gl (rx_oV w0 mi0 hn) gl (fun _ => rfl)
    have k5 : hK (cVt h (ndA X n + 13) (mA s 2 n + 1) (Int32.ofNat n)) (ndA X n) = some (5, 0) := q_k5 (rx_vt w0 hn (mA s 2 n + 1) (Int32.ofNat n)) hn
    have wv := rx_vt w0 hn (mA s 2 n + 1) (Int32.ofNat n)
    have cv : CC X n h (cVt h (ndA X n + 13) (mA s 2 n + 1) (Int32.ofNat n)) := cc_vt hn _ _
    have i10 : hI (cVt h (ndA X n + 13) (mA s 2 n + 1) (Int32.ofNat n)) (gq 5 10) (ndA X n) = mA s 6 n := hI_cVt.trans hap0
    generalize cVt h (ndA X n + 13) (mA s 2 n + 1) (Int32.ofNat n) = h1 at *
    have k5' : hK (sI h1 (gq 5 4) (ndA X n) 1) (ndA X n) = some (5, 0) := (hK_sI _ _ _ _ _).trans k5
    have nm : gI (sI h1 (gq 5 4) (ndA X n) 1) 5 6 (ndA X n) = some (Int32.ofNat n) := by
      rw [gI_k k5', hI_sI, if_neg (by simp [gq])]
      have := q_num wv hn
      rw [gI_k k5] at this; exact this
    obtain ⟨h', s', K', W', g1, g2, g3, g4, g5, g6, g7, g8⟩ := j_asks (v0 := mF s 24) hn hB 5 0 8 LF _ _ K W rfl (by decide) (LF_lt (by decide)) w2 m2 (oV_8 n _) (by omega)
    have p := pf_se60 _ _ (p10_refl _) _ _ g1
    have bl := Nat.le_trans (mi_cm m2 n).2.1 (mi_cm m2 n).1
    have tl := c_termAt w2 m2 hn hB (mA (oV n (oP n s)) 5 n)
    have b4 := mi_4 m2 hn
    have b5 := mi_5 m2 hn
    have lsB2 := mi_ls m2 n
    have ndz := rx_z w2 hn
    rw [b4, b5, if_pos (by rw [io_le (by omega) (by omega), io_le (by omega) (by omega)]; exact ⟨bl, Nat.le_refl _⟩), io_cl (by omega), ← b5] at tl
    refine ⟨h', s', _, K', W', ?_, ?_, cc_trans (cc_trans cv (cc_nd (ch_trans (ch_sI (by unfold PNd; omega)) (ch_sI (by unfold PNd; omega))) hn)) g3, g4, g5, gl, ex_trans ex_oP (ex_trans ex_oV (ex_mx g6)), by omega, by omega, fun _ => ?_⟩
    · rw [pI_k k5, bd_some, nm, bd_some, pI_k k5', bd_some, sh_n hn, q_disk w2 hn, bd_some, onR_some, bd_some, onR_some, q_last w2 hn, bd_some, if_pos (q_k1 w2 hn), tl, bd2_some, show (0 : Int32) = Int32.ofNat 0 from rfl]
      exact g1
    · have eo : uA (uA (uA (uA (oP n s) 2 n (mA (oP n s) 2 n + 1)) 3 n (Int32.ofNat n)) 8 n 1) 9 n (Int32.ofNat (2 ^ n)) = oV n (oP n s) := by unfold oV; rw [e]
      rw [eo, show (0 : Int32) = Int32.ofNat 0 from rfl]
      exact g2
    · rw [p.2 _ (by omega), hI_sI, if_neg (fun q => absurd q.1 (by decide)), hI_sI, if_neg (fun q => absurd q.1 (by decide)), i10, g6.1 6 n (by omega)]
      unfold oV
      rw [mA_k _ _ _ _ (by decide), mA_k _ _ _ _ (by decide), mA_k _ _ _ _ (by decide), mA_k _ _ _ _ (by decide), mA_oP _ _ _ (by decide)]
theorem law_expire (hj : j < 64) (J : JJ X M j h) (x : Int32) : OKi (JJ X M (j + 1)) M (M + 39) h (fL_expire X x (M + 39)) (fX10_expire M x) := by
  obtain ⟨s, kp, g, K, W, w, mi0, ca, ap, hk⟩ := J
  have hM := rx_M w
  have hz : M + 40 ≤ hZ h := w.1.2.2.2.1
  have mi := mi_B (Nat.le_succ j) mi0
  have fn : FN X M (j + 1) h s := ⟨g, K, W, w, mi, ca, ap, by omega⟩
  have er : ∀ H, MW M H → fX10_expire M x (pm M H s) = lft M H (gX10_expire x s) := fun H hw => eX10_expire hw x s
  rcases nd_cs x with z | ⟨n, hn, rfl⟩
  · refine ok_i (k := 1) (h1 := h) (s' := uF s 0 1) (b := 0) ?_ er ?_ mF_h0 (fun q => absurd q (by decide)) kp (fn_F fn)
    · unfold fL_expire fX9_expire
      rw [if_pos (q_kX w), if_pos (q_kX w), c_nodeNo w z, bdx_inr, bdc_inr, if_pos rfl]
    · unfold gX10_expire gX10_expire_13
      rw [g_noN z, bdm_some, if_pos rfl, g_bad1, bdm_some, if_neg (by decide)]
  · have w1 : RX X M h (uF s 0 0) g K := rx_F w (by decide)
    have m1 : MI (uF s 0 0) g (j + 1) K W := mi_F mi (by decide)
    have no : (mA s 1 n = 0 ∨ mA s 8 n = 2) → OKi (JJ X M (j + 1)) M (M + 39) h (fL_expire X (Int32.ofNat n) (M + 39)) (fX10_expire M (Int32.ofNat n)) := by
      intro z
      refine ok_i (k := 2) (h1 := h) (s' := uF (uF s 0 0) 0 2) (b := 0) ?_ er ?_ mF_h0 (fun q => absurd q (by decide)) kp (fn_F (fn_F fn))
      · unfold fL_expire fX9_expire fX9_expire_21
        rw [if_pos (q_kX w), if_pos (q_kX w), c_nodeAt w hn, bdx_inl, onR_some, q_up w hn, bd_some]
        by_cases u : mA s 1 n = 0
        · rw [if_pos u, bdc_inr, if_neg (by decide), if_pos rfl]
        · rw [if_neg u, q_role w hn, bd_some, if_pos (z.resolve_left u), bdc_inr, if_neg (by decide), if_pos rfl]
      · unfold gX10_expire gX10_expire_13 gX10_expire_40 gX10_expire_45
        rw [g_isN hn, bdm_some, if_neg (by decide), g_bad0, bdm_some, if_pos rfl, ld_1 hn, bd_some, mA_uF]
        by_cases u : mA s 1 n = 0
        · rw [if_pos u, g_bad1, bdm_some, if_neg (by decide)]
        · rw [if_neg u, ld_8 hn, bd_some, mA_uF, if_pos (z.resolve_left u), g_bad1, bdm_some, if_neg (by decide)]
    by_cases u : mA s 1 n = 0
    · exact no (Or.inl u)
    · by_cases r : mA s 8 n = 2
      · exact no (Or.inr r)
      · have hu : mA s 1 n = 1 := (mi.2.1 n hn).1.resolve_left u
        have tB := mi_tB mi0 n
        obtain ⟨h', s', g', K', W', a1, a2, a3, a4, a5, a6, a7, a8, a9, a10⟩ := j_stand2 w1 m1 hn hu (by omega) (show tmM s n + 1 ≤ j + 1 by omega) (by omega) (ap n hn hu)
        have fc : FN X M (j + 1) h' s' := fn_call (s := uF (uF s 0 0) 0 0) (ca_ext (s := s) (gle_refl g) (fun _ _ _ => rfl) (fun k hk => by rw [mF_n _ _ (by omega), mF_n _ _ (by omega)]) ca) ap a3 a7 hn hM hz a4 a5 a6 a10 (by omega)
        refine ok_iv (h1 := h') (s' := s') (b := mF s' 24 - mF (uF s 0 0) 24) ?_ er ?_ ?_ (kp_cc kp a3 hn hM hz) fc
        · unfold fL_expire fX9_expire
          rw [if_pos (q_kX w), if_pos (q_kX w), c_nodeAt w hn, bdx_inl, onR_some, q_up w hn, bd_some, if_neg u, q_role w hn, bd_some, if_neg r, q_xmail w, bd_some, onR_some, q_count w1, bd_some, if_pos (q_k5 w hn), a1, bd2_some, q_xmail a4, bd_some, onR_some, q_count a4, bd_some, bdc_inl]
        · unfold gX10_expire gX10_expire_13
          rw [g_isN hn, bdm_some, if_neg (by decide), g_bad0, bdm_some, if_pos rfl, ld_1 hn, bd_some, mA_uF, if_neg u, ld_8 hn, bd_some, mA_uF, if_neg r, a2]
        · rw [a7.2.1 0 (by decide) (by decide), mF_h0]
theorem c_msgNo {x : Int32} (w : RX X M h s g K) (z : x < 0 ∨ mF s 24 ≤ x) : fX9_messageAt X x h = some (.inr 0, h) := by
  unfold fX9_messageAt fX9_messageAt_15
  by_cases z1 : x < 0
  · rw [if_pos z1]
  · rw [if_neg z1, q_xmail w, bd_some, onR_some, q_count w, bd_some, if_neg (Int32.not_lt.mpr (z.resolve_left z1))]
theorem c_msgAt {k q : Nat} (w : RX X M h s g K) (m24 : mF s 24 = Int32.ofNat K) (hK' : K ≤ 3000) (hk : k < K) (hq : aR h (X + 2) k = some q) : fX9_messageAt X (Int32.ofNat k) h = some (.inl (some q), h) := by
  unfold fX9_messageAt
  rw [if_neg (by rw [io_nn (by omega)]; exact id), q_xmail w, bd_some, onR_some, q_count w, bd_some, m24, if_pos (by rw [io_lt (by omega) (by omega)]; omega), bd_some, onR_some, q_sent w, bd_some, onR_some, ldR_k (q_kS w) (show k < 3000 by omega) (by decide), bd_some, hq, onR_some]
theorem ms_cs {x : Int32} (hK' : K ≤ 3000) : (x < 0 ∨ Int32.ofNat K ≤ x) ∨ ∃ k, k < K ∧ x = Int32.ofNat k := by
  by_cases z : x < 0 ∨ Int32.ofNat K ≤ x
  · exact Or.inl z
  · refine Or.inr ⟨x.toNatClampNeg, ?_, io_of (Int32.not_lt.mp (fun q => z (Or.inl q)))⟩
    have h1 : 0 ≤ x := Int32.not_lt.mp (fun q => z (Or.inl q))
    have h2 : x < Int32.ofNat K := Int32.not_le.mp (fun q => z (Or.inr q))
    rw [io_of h1, io_lt (Int32.toNatClampNeg_lt _) (by omega)] at h2
    exact h2
theorem law_deliver (hj : j < 64) (J : JJ X M j h) (x : Int32) : OKi (JJ X M (j + 1)) M (M + 39) h (fL_deliver X x (M + 39)) (fX10_deliver M x) := by
  obtain ⟨s, kp, g, K, W, w, mi0, ca, ap, hk⟩ := J
  have hM := rx_M w
  have hz : M + 40 ≤ hZ h := w.1.2.2.2.1
  have mi := mi_B (Nat.le_succ j) mi0
  have fn : FN X M (j + 1) h s := ⟨g, K, W, w, mi, ca, ap, by omega⟩
  have er : ∀ H, MW M H → fX10_deliver M x (pm M H s) = lft M H (gX10_deliver x s) := fun H hw => eX10_deliver hw x s
  have m24 := mi_24 mi
  rcases ms_cs (x := x) (show K ≤ 3000 by omega) with z | ⟨k, hkK, rfl⟩
  · refine ok_i (k := 1) (h1 := h) (s' := uF s 0 1) (b := 0) ?_ er ?_ mF_h0 (fun q => absurd q (by decide)) kp (fn_F fn)
    · unfold fL_deliver fX9_deliver
      rw [if_pos (q_kX w), if_pos (q_kX w), c_msgNo w (by rw [m24]; exact z), bdx_inr, bdc_inr, if_pos rfl]
    · unfold gX10_deliver gX10_deliver_13 gX10_deliver_18 rdF
      by_cases z1 : x < 0
      · rw [if_pos z1, g_bad1, bdm_some, if_neg (by decide)]
      · rw [if_neg z1, bd_some, m24, if_neg (Int32.not_lt.mpr (z.resolve_left z1)), g_bad1, bdm_some, if_neg (by decide)]
  · have hk3 : k < 3000 := by omega
    have w1 : RX X M h (uF s 0 0) g K := rx_F w (by decide)
    have m1 : MI (uF s 0 0) g (j + 1) K W := mi_F mi (by decide)
    obtain ⟨q, hq, mv⟩ := w1.2.2.1.2.2 k hkK
    obtain ⟨t, f, n, T, e1, e2, e3, e4, hf, hn, hfn, e8, mb⟩ := m1.2.2.2.2.2.2.2.2.1 k hkK
    clear mb
    have a : MQq X M h (uF s 0 0) g K q k f := ⟨hkK, mv, e2⟩
    have t2 : gI h 4 2 q = some (Int32.ofNat n) := by rw [gI_k (mq_k a), mv.1.2.2.2.2.1, e3]
    have gd : gX10_deliver (Int32.ofNat k) s = bd (ldA (uF s 0 0) 13 1 (Int32.ofNat n)) fun z4 => if z4 = 0 then (bd (rdF (uF s 0 0) 24) fun z5 => some ((z5 - mF (uF s 0 0) 24), uF s 0 0)) else bdm (gX10_got (Int32.ofNat k) (Int32.ofNat n) (Int32.ofNat f) (uF s 0 0)) fun _ s8 => bd (rdF s8 24) fun z9 => some ((z9 - mF (uF s 0 0) 24), s8) := by
      unfold gX10_deliver gX10_deliver_18
      have r24 : rdF s 24 = some (Int32.ofNat K) := congrArg some m24
      have r24' : rdF (uF s 0 0) 24 = some (mF (uF s 0 0) 24) := rfl
      rw [if_neg (by rw [io_nn (by omega)]; exact id), r24, bd_some, if_pos (by rw [io_lt (by omega) (by omega)]; omega), g_bad0, bdm_some, if_pos rfl, r24', bd_some, ld_17 hk3, bd_some, ld_16 hk3, e3, e2]
      rfl
    by_cases u : mA s 1 n = 0
    · refine ok_iv (h1 := h) (s' := uF s 0 0) (b := mF (uF s 0 0) 24 - mF (uF s 0 0) 24) ?_ er ?_ mF_h0 kp (fn_F fn)
      · unfold fL_deliver fX9_deliver fX5_receive
        rw [if_pos (q_kX w), if_pos (q_kX w), c_msgAt w m24 (by omega) hkK hq, bdx_inl, onR_some, t2, bd_some, if_pos (q_kX w), c_nodeAt w hn, bdx_inl, onR_some, q_xmail w, bd_some, onR_some, q_count w1, bd_some, if_pos (q_k5 w hn), q_up w hn, bd_some, if_pos u, bd2_some, q_xmail w, bd_some, onR_some, q_count w1, bd_some, bdc_inl]
      · rw [gd, ld_1 hn, bd_some, mA_uF, if_pos u]
        rfl
    · have hu : mA s 1 n = 1 := (mi.2.1 n hn).1.resolve_left u
      have lB := mi_ls mi0 n
      obtain ⟨h', s', g', K', W', a1, a2, a3, a4, a5, a6, a7, a8, a9, a10⟩ := j_recv w1 m1 a hn hf (fun q => hfn q.symm) (by omega) (by omega) hu (show lsM s n + 1 ≤ j + 1 by omega) e3 (ap n hn hu)
      have fc : FN X M (j + 1) h' s' := fn_call (s := uF s 0 0) (ca_ext (s := s) (gle_refl g) (fun _ _ _ => rfl) (fun k hk => by rw [mF_n _ _ (by omega)]) ca) ap a3 a7 hn hM hz a4 a5 a6 a10 (by omega)
      refine ok_iv (h1 := h') (s' := s') (b := mF s' 24 - mF (uF s 0 0) 24) ?_ er ?_ ?_ (kp_cc kp a3 hn hM hz) fc
      · unfold fL_deliver fX9_deliver
        rw [if_pos (q_kX w), if_pos (q_kX w), c_msgAt w m24 (by omega) hkK hq, bdx_inl, onR_some, t2, bd_some, if_pos (q_kX w), c_nodeAt w hn, bdx_inl, onR_some, q_xmail w, bd_some, onR_some, q_count w1, bd_some, if_pos (q_k5 w hn), a1, bd2_some, q_xmail a4, bd_some, onR_some, q_count a4, bd_some, bdc_inl]
      · rw [gd, ld_1 hn, bd_some, mA_uF, if_neg u, a2, bdm_some]
        rfl
      · rw [a7.2.1 0 (by decide) (by decide), mF_h0]
theorem c_lead0 (w : RX X M h s g K) (hn : n < 5) (z : ¬ (mA s 1 n = 1 ∧ mA s 8 n = 2)) (u : mA s 1 n = 0 ∨ mA s 1 n = 1) : fX9_requireWorkingLeader (ndA X n) h = some (.inr 1, h) := by
  unfold fX9_requireWorkingLeader fX9_requireWorkingLeader_28
  rw [q_up w hn, bd_some]
  rcases u with u | u
  · rw [if_pos u]
  · rw [if_neg (by rw [u]; decide), q_role w hn, bd_some, if_neg (fun q => z ⟨u, q⟩)]
theorem c_lead1 (w : RX X M h s g K) (mi : MI s g B K W) (hn : n < 5) (hB : B < 1200) (hu : mA s 1 n = 1) (h2 : mA s 8 n = 2) : fX9_requireWorkingLeader (ndA X n) h = some (.inl (), h) := by
  have lB := mi_ls mi n
  unfold fX9_requireWorkingLeader
  rw [q_up w hn, bd_some, if_neg (by rw [hu]; decide), q_role w hn, bd_some, if_pos h2, q_disk w hn, bd_some, onR_some, q_last w hn, bd_some, mi_5 mi hn, if_pos (by rw [show (1200 : Int32) = Int32.ofNat 1200 from rfl, io_lt (by omega) (by omega)]; omega)]
theorem law_beat (hj : j < 64) (J : JJ X M j h) (x : Int32) : OKi (JJ X M (j + 1)) M (M + 39) h (fL_beat X x (M + 39)) (fX10_beat M x) := by
  obtain ⟨s, kp, g, K, W, w, mi0, ca, ap, hk⟩ := J
  have hM := rx_M w
  have hz : M + 40 ≤ hZ h := w.1.2.2.2.1
  have mi := mi_B (Nat.le_succ j) mi0
  have fn : FN X M (j + 1) h s := ⟨g, K, W, w, mi, ca, ap, by omega⟩
  have er : ∀ H, MW M H → fX10_beat M x (pm M H s) = lft M H (gX10_beat x s) := fun H hw => eX10_beat hw x s
  rcases nd_cs x with z | ⟨n, hn, rfl⟩
  · refine ok_i (k := 1) (h1 := h) (s' := uF s 0 1) (b := 0) ?_ er ?_ mF_h0 (fun q => absurd q (by decide)) kp (fn_F fn)
    · unfold fL_beat fX9_beat
      rw [if_pos (q_kX w), if_pos (q_kX w), c_nodeNo w z, bdx_inr, bdc_inr, if_pos rfl]
    · unfold gX10_beat gX10_beat_13
      rw [g_noN z, bdm_some, if_pos rfl, g_bad1, bdm_some, if_neg (by decide)]
  · have w1 : RX X M h (uF s 0 0) g K := rx_F w (by decide)
    have m1 : MI (uF s 0 0) g (j + 1) K W := mi_F mi (by decide)
    have n1 := (mi.2.1 n hn).1
    by_cases z : mA s 1 n = 1 ∧ mA s 8 n = 2
    · obtain ⟨hu, h2⟩ := z
      have w2 : RX X M h (uF (uF s 0 0) 0 0) g K := rx_F w1 (by decide)
      have m2 : MI (uF (uF s 0 0) 0 0) g (j + 1) K W := mi_F m1 (by decide)
      have u : ¬ mA s 1 n = 0 := by rw [hu]; decide
      obtain ⟨h', s', K', W', a1, a2, a3, a4, a5, a6, a7, a8⟩ := j_sendAll hn (show j + 1 ≤ 1200 by omega) w2 m2 hu h2 (by omega)
      have p := pf_all (p10_refl h) _ _ a1
      have ndz := rx_z w hn
      have fc : FN X M (j + 1) h' s' := fn_call (s := uF (uF s 0 0) 0 0) (ca_ext (s := s) (gle_refl g) (fun _ _ _ => rfl) (fun k hk => by rw [mF_n _ _ (by omega), mF_n _ _ (by omega)]) ca) ap a3 (ex_mx a6) hn hM hz a4 a5 (gle_refl g) (fun _ => by rw [p.2 _ (by omega), a6.1 6 n (by omega)]; exact ap n hn hu) (by omega)
      refine ok_iv (h1 := h') (s' := s') (b := mF s' 24 - mF (uF (uF s 0 0) 0 0) 24) ?_ er ?_ ?_ (kp_cc kp a3 hn hM hz) fc
      · unfold fL_beat fX9_beat
        rw [if_pos (q_kX w), if_pos (q_kX w), c_nodeAt w hn, bdx_inl, onR_some, c_lead1 w mi hn (by omega) hu h2, bdx_inl, q_xmail w, bd_some, onR_some, q_count w2, bd_some, if_pos (q_k5 w hn), a1, bd2_some, q_xmail a4, bd_some, onR_some, q_count a4, bd_some, bdc_inl]
      · unfold gX10_beat gX10_beat_13 gX10_beat_45
        rw [g_isN hn, bdm_some, if_neg (by decide), g_bad0, bdm_some, if_pos rfl, ld_1 hn, bd_some, mA_uF, if_neg u, ld_8 hn, bd_some, mA_uF, if_pos h2, g_bad0, bdm_some, if_pos rfl]
        show (bdm (gX10_sendAll (Int32.ofNat n) (uF (uF s 0 0) 0 0)) fun _ s3 => bd (rdF s3 24) fun z4 => some ((z4 - mF (uF (uF s 0 0) 0 0) 24), s3)) = _
        rw [a2, bdm_some]
        rfl
      · rw [a6.2.1 0 (by decide) (by decide), mF_h0]
    · refine ok_i (k := 2) (h1 := h) (s' := uF (uF s 0 0) 0 2) (b := 0) ?_ er ?_ mF_h0 (fun q => absurd q (by decide)) kp (fn_F (fn_F fn))
      · unfold fL_beat fX9_beat
        rw [if_pos (q_kX w), if_pos (q_kX w), c_nodeAt w hn, bdx_inl, onR_some, c_lead0 w hn z n1, bdx_inr, bdc_inr, if_neg (by decide), if_pos rfl]
      · unfold gX10_beat gX10_beat_13 gX10_beat_40 gX10_beat_45
        rw [g_isN hn, bdm_some, if_neg (by decide), g_bad0, bdm_some, if_pos rfl, ld_1 hn, bd_some, mA_uF]
        by_cases u : mA s 1 n = 0
        · rw [if_pos u, g_bad1, bdm_some, if_neg (by decide)]
        · rw [if_neg u, ld_8 hn, bd_some, mA_uF, if_neg (fun q => z ⟨n1.resolve_left u, q⟩), g_bad1, bdm_some, if_neg (by decide)]
end
