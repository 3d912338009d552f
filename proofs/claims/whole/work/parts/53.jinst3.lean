section
variable {X M : Nat} {h : Hp} {s : MS} {g : GH} {B K W n m q k b wq : Nat}
theorem j_install (w : RX X M h s g K) (mi : MI s g B K W) (a : MQq X M h s g K q k m) (hn : n < 5) (hm : m < 5) (hnm : n ≠ m) (hB : B ≤ 1200) (hK' : K < 3000) (hu : mA s 1 n = 1) (hd : gD g (tmM s n) ≠ 0) (h15 : mA s 15 k = 5) (h19 : mA s 19 k = Int32.ofNat b) (h20 : mA s 20 k = gE g (tmM s n) b 0) (h25 : mA s 25 k = Int32.ofNat wq) (w60 : wq < 60) (b1 : 1 ≤ b) (bW : b ≤ gW g (tmM s n)) (hsr : ∀ i, i ≤ b → srM s wq i = gE g (tmM s n) i) (cb : CPM g (gE g (tmM s n)) (tmM s n) b) : JO X M B n 1 h s g K (fX5_handleSnapshot (ndA X n) q h) (gX10_installs (Int32.ofNat k) (Int32.ofNat n) (Int32.ofNat m) s) := by
  have hk : k < 3000 := by have := a.1; omega
  have w1 := rx_role (r := 0) w hn (by decide)
  have m1 := mi_role0 mi hn
  have cc1 : CC X n h (sI h (gq 5 4) (ndA X n) 0) := cc_nd (ch_sI (by unfold PNd; omega)) hn
  have a1 := mq_nx (s' := uA s 8 n 0) a cc1 hn (rx_M w) (gle_refl g) (fun x j h1 h2 => mA_k _ _ _ _ (by omega))
  have xx : ∀ x j, x ≠ 8 → mA (uA s 8 n 0) x j = mA s x j := fun x j hx => mA_k _ _ _ _ hx
  have t1 : tmM (uA s 8 n 0) n = tmM s n := by unfold tmM; rw [xx 2 n (by decide)]
  have e8 : mA (uA s 8 n 0) 8 n = 0 := mA_h _ _ _ _
  unfold fX5_handleSnapshot gX10_installs
  rw [pI_k (q_k5 w hn), bd_some, st_8 hn, bd_some]
  refine jo_step0 (s1 := uA s 8 n 0) cc1 (ex_uA (by decide)) (gle_refl g) ?_
  generalize sI h (gq 5 4) (ndA X n) 0 = h1 at *
  rw [← xx 15 k (by decide)] at h15
  rw [← xx 19 k (by decide)] at h19
  rw [← xx 20 k (by decide)] at h20
  rw [← xx 25 k (by decide)] at h25
  rw [← xx 1 n (by decide)] at hu
  have hsr' : ∀ i, i ≤ b → srM (uA s 8 n 0) wq i = gE g (tmM s n) i := fun i hi => by rw [← hsr i hi]; unfold srM; funext y; rw [xx 24 _ (by decide)]
  rw [← t1] at hd h20 bW hsr' cb
  clear w mi a hsr t1 xx cc1
  generalize uA s 8 n 0 = s1 at *
  have lsB := mi_ls m1 n
  obtain ⟨c1, c2, c3⟩ := mi_cm m1 n
  have gWB : gW g (tmM s1 n) ≤ B := m1.2.2.2.1 _
  obtain ⟨r, x, T', r1, r2, r3, r4, r5⟩ := a1.2.1.2.2.2 h15
  rw [h19, io_cl (by omega)] at r3 r4 r5
  rw [← r4] at r5
  have rc := r_com m1.1 (x := lgM s1 n) (T := tmM s1 n) c3 hd (rm_0 m1.1 n)
  have r48 : gR h1 4 8 q = some (some r) := by rw [gR_k (mq_k a1), r1]
  have en : 0 ≤ gE g (tmM s1 n) b 0 := (m1.2.2.2.2.2.2.2.2.2 (tmM s1 n) b b1 bW).1
  simp only [r48, bd_some, onR_some, q_comU w1 hn hu, sv_b r5, mi_6 m1 hn hu, ld_6 hn, ld_19 hk, h19]
  by_cases z : cmM s1 n < b
  · have zz : Int32.ofNat (cmM s1 n) < Int32.ofNat b := by rw [io_lt (by omega) (by omega)]; exact z
    simp only [if_pos zz, q_disk w1 hn, bd_some, onR_some, if_pos (q_k1 w1 hn), c_recSnap w1 m1 hn hB r5 (show b < 100000 by omega), g_record hn]
    by_cases pw : mA s1 10 n = 0
    · simp only [if_pos pw, bd2_some, if_pos (q_k5 w1 hn), c_fail w1 hn, if_true, bdm_some]
      exact ⟨_, _, g, K, W, rfl, rfl, cc_down hn rfl, rx_down w1 hn, mi_down m1 hn, gle_refl g, ex_oD, Nat.le_refl _, by omega⟩
    · have w2 := rx_pow w1 hn
      have m2 := mi_pow n m1
      have fr2 : Fr X M h1 (cP h1 (ndA X n + 13)) := fr_ch (P := PNd X n) (ch_cP (by unfold PNd; omega)) (fun a q => by have := rx_M w1; unfold PNd ndA at q; omega)
      have sv2 := sv_fr fr2 r5
      have ccp : CC X n h1 (cP h1 (ndA X n + 13)) := cc_nd (ch_cP (by unfold PNd; omega)) hn
      have a2 := mq_nx (s' := oP n s1) a1 ccp hn (rx_M w1) (gle_refl g) (fun x j h1 h2 => mA_oP _ _ _ (by omega))
      have px : ∀ x j, x ≠ 10 → mA (oP n s1) x j = mA s1 x j := fun x j hx => mA_oP _ _ _ hx
      obtain ⟨st, hst, _⟩ := sv2.2.2.2.2
      -- the last index afterwards
      obtain ⟨l, hl, hcl, hgl⟩ : ∃ l, ((b ≤ lsM s1 n ∧ teM (lgM s1 n b) = teM (gE g (tmM s1 n) b) ∧ l = lsM s1 n) ∨ ((lsM s1 n < b ∨ teM (lgM s1 n b) ≠ teM (gE g (tmM s1 n) b)) ∧ l = b)) ∧ (if (if bsM s1 n ≤ b ∧ b ≤ lsM s1 n then lgM s1 n b 0 else -1) = x b 0 then cP h1 (ndA X n + 13) else sI (cP h1 (ndA X n + 13)) (gq 1 2) (ndA X n + 13) (Int32.ofNat b)) = sI (cP h1 (ndA X n + 13)) (gq 1 2) (ndA X n + 13) (Int32.ofNat l) ∧ (if mA (oP n s1) 5 n < Int32.ofNat b then (gX10_installs_84 (Int32.ofNat k) (Int32.ofNat n) (Int32.ofNat m) (oP n s1)) else (bdm (gX10_termAt (Int32.ofNat n) (Int32.ofNat b) (oP n s1)) fun z8 s8 => bd (ldA s8 11 20 (Int32.ofNat k)) fun z9 => if z8 = z9 then (gX10_installs_85 (Int32.ofNat k) (Int32.ofNat n) (Int32.ofNat m) (1 : Int32) s8) else (gX10_installs_84 (Int32.ofNat k) (Int32.ofNat n) (Int32.ofNat m) s8))) = bdm (gX10_answer (3 : Int32) (Int32.ofNat n) (Int32.ofNat m) (Int32.ofNat b) (oI n b wq l (oP n s1))) fun _ s8 => some ((), s8) := by
        have hb' : mA (oP n s1) 19 k = Int32.ofNat b := by rw [px 19 k (by decide)]; exact h19
        have hw' : mA (oP n s1) 25 k = Int32.ofNat wq := by rw [px 25 k (by decide)]; exact h25
        by_cases y1 : lsM s1 n < b
        · refine ⟨b, Or.inr ⟨Or.inl y1, rfl⟩, ?_, ?_⟩
          · rw [if_neg (show ¬ (bsM s1 n ≤ b ∧ b ≤ lsM s1 n) by omega), if_neg]
            intro u; rw [r4, h20] at u; rw [← u] at en; exact absurd en (by decide)
          · rw [if_pos (by rw [px 5 n (by decide), mi_5 m1 hn, io_lt (by omega) (by omega)]; exact y1)]
            exact g_inst hn hk hb' (by omega) hw' w60 (Or.inl ⟨rfl, rfl⟩)
        · have lb : bsM s1 n ≤ b ∧ b ≤ lsM s1 n := by omega
          by_cases y2 : lgM s1 n b 0 = gE g (tmM s1 n) b 0
          · refine ⟨lsM s1 n, Or.inl ⟨lb.2, (te_iff (mi_nn m1 n b lb.2) en).mp y2, rfl⟩, ?_, ?_⟩
            · rw [if_pos lb, if_pos (by rw [r4, h20]; exact y2), ← mi_5 m1 hn, ← px 5 n (by decide)]
              have := (rx_n w2 hn).2.1.2.2.2.2.2.2.2.1
              rw [← this, sI_id]
            · rw [if_neg (by rw [px 5 n (by decide), mi_5 m1 hn, io_lt (by omega) (by omega)]; exact y1), g_termAt hn (by omega), bdm_some, ld_20 hk, bd_some, ← lg_0 (by omega), oP_lg, px 20 k (by decide), h20, if_pos y2]
              exact g_inst hn hk hb' (by omega) hw' w60 (Or.inr ⟨rfl, by rw [px 5 n (by decide)]; exact mi_5 m1 hn⟩)
          · refine ⟨b, Or.inr ⟨Or.inr (fun q => y2 ((te_iff (mi_nn m1 n b lb.2) en).mpr q)), rfl⟩, ?_, ?_⟩
            · rw [if_pos lb, if_neg (by rw [r4, h20]; exact y2)]
            · rw [if_neg (by rw [px 5 n (by decide), mi_5 m1 hn, io_lt (by omega) (by omega)]; exact y1), g_termAt hn (by omega), bdm_some, ld_20 hk, bd_some, ← lg_0 (by omega), oP_lg, px 20 k (by decide), h20, if_neg y2]
              exact g_inst hn hk hb' (by omega) hw' w60 (Or.inl ⟨rfl, rfl⟩)
      have l12 : l ≤ 1200 := by rcases hl with u | u <;> omega
      have lbl : b ≤ l := by rcases hl with u | u <;> omega
      obtain ⟨h2, hh2⟩ : ∃ h2, h2 = sR (sI (cP h1 (ndA X n + 13)) (gq 1 2) (ndA X n + 13) (Int32.ofNat l)) (gq 1 3) (ndA X n + 13) (some r) := ⟨_, rfl⟩
      obtain ⟨ld, ccl, w3⟩ := rx_inst (wq := wq) w2 hn (by rw [px 1 n (by decide)]; exact hu) hh2 r2 r3 sv2 hst (by omega) l12 (by rw [oP_ls, oP_bs]; rcases hl with u | u <;> omega)
      have m3 : MI (oI n b wq l (oP n s1)) g B K W := mi_install m2 hn (by rw [px 1 n (by decide)]; exact hu) (by rw [px 8 n (by decide)]; exact e8) (by rw [oP_tm]; exact hd) hB b1 (by rw [oP_tm]; exact bW) (fun i hi => by rw [oP_tm, ← hsr' i hi]; unfold srM; funext y; rw [px 24 _ (by decide)]) (by rw [oP_tm]; exact cb) (by rw [oP_ls, oP_tm, oP_lg]; exact hl)
      have o := oI_n (n := n) (b := b) (w := wq) (l := l) (s := oP n s1)
      have t3 : tmM (oI n b wq l (oP n s1)) n = tmM s1 n := by rw [← oP_tm n n s1]; unfold tmM; rw [mA_oIx _ _ (by decide) (by omega)]
      have l3 : lsM (oI n b wq l (oP n s1)) n = l := by unfold lsM; rw [o.2.1, io_cl (by omega)]
      obtain ⟨m4, gl, ga⟩ := mi_ack (n := n) (i := b) m3 (by rw [l3]; exact lbl) (by rw [t3]; exact bW) (by
        rw [t3]; intro j hj
        rw [lg_oI (by omega), if_pos ⟨rfl, hj⟩, ← hsr' j hj]; unfold srM; funext y; rw [px 24 _ (by decide)])
      have w4 := rx_gl w3 gl (fun _ => rfl)
      have a4 := mq_nx (s' := oI n b wq l (oP n s1)) a2 ccl hn (rx_M w1) gl (fun x j h1 h2 => mA_oIx _ _ (by omega) (by omega))
      have jr := j_reply (t := 3) (v := Int32.ofNat b) w4 m4 hn hm hnm hK' (by omega) (mq_k a4) (mq_f a4) (mq_z a4) (Or.inr (Or.inl ⟨rfl, b, rfl, b1, by rw [t3] at ga ⊢; exact ga⟩))
      have sv4 := sv_fr (cc_fr ccl hn (rx_M w1)) sv2
      have k5h2 : hK h2 (ndA X n) = some (5, 0) := by rw [hh2, hK_sR, hK_sI]; exact q_k5 w2 hn
      refine jo_step0 (s1 := oI n b wq l (oP n s1)) (cc_trans ccp ccl) (ex_trans ex_oP ⟨fun x i hx => mA_oIx _ _ (by omega) (by omega), fun _ _ _ => rfl, fun v hv => ⟨mA_oIx _ _ (by decide) (Or.inr hv), mA_oIx _ _ (by decide) (Or.inr hv)⟩⟩) gl ?_
      simp only [if_neg pw, bd2_some, bdm_some, hcl, ← hh2, if_pos k5h2, c_ok, if_neg (show ¬ (1 : Int32) = 0 by decide), ld, bd_some, sv_b sv4, if_pos (q_k5 w4 hn), ld_19 hk, px 19 k (by decide), h19, ld_5 hn, hgl]
      exact jo_id jr
  · have zz : ¬ Int32.ofNat (cmM s1 n) < Int32.ofNat b := by rw [io_lt (by omega) (by omega)]; exact z
    simp only [if_neg zz, if_pos (q_k5 w1 hn)]
    obtain ⟨m4, gl, ga⟩ := mi_ack (n := n) (i := cmM s1 n) m1 c1 rc.1 rc.2
    have w4 := rx_gl w1 gl (fun _ => rfl)
    have a4 := mq_nx (s' := s1) a1 (cc_refl X n h1) hn (rx_M w1) gl (fun _ _ _ _ => rfl)
    exact jo_step0 (cc_refl X n h1) (ex_refl n s1) gl (jo_id (j_reply (t := 3) (v := Int32.ofNat (cmM s1 n)) w4 m4 hn hm hnm hK' (by omega) (mq_k a4) (mq_f a4) (mq_z a4) (Or.inr (Or.inl ⟨rfl, cmM s1 n, rfl, by omega, ga⟩))))
end
