section
variable {X M : Nat} {h : Hp} {s : MS} {g : GH} {B K W n m q k p c t : Nat}
theorem j_append (w : RX X M h s g K) (mi : MI s g B K W) (a : MQq X M h s g K q k m) (hn : n < 5) (hm : m < 5) (hnm : n ≠ m) (hB : B ≤ 1200) (hK' : K < 3000) (hu : mA s 1 n = 1) (hd : gD g (tmM s n) ≠ 0) (h15 : mA s 15 k = 2) (h19 : mA s 19 k = Int32.ofNat p) (h20 : mA s 20 k = gE g (tmM s n) p 0) (h21 : mA s 21 k = Int32.ofNat c) (h22 : mA s 22 k = Int32.ofNat t) (hc : c ≤ 4) (pc1 : 1 ≤ p + c) (pcW : p + c ≤ gW g (tmM s n)) (hcr : ∀ j, j < c → crM s k j = gE g (tmM s n) (p + 1 + j)) (ct : CPM g (gE g (tmM s n)) (tmM s n) t) (tW : t ≤ gW g (tmM s n)) : JO X M B n 1 h s g K (fX5_handleAppend (ndA X n) q h) (gX10_appends (Int32.ofNat k) (Int32.ofNat n) (Int32.ofNat m) s) := by
  have hk : k < 3000 := by have := a.1; omega
  have w1 := rx_role (r := 0) w hn (by decide)
  have m1 := mi_role0 mi hn
  have cc1 : CC X n h (sI h (gq 5 4) (ndA X n) 0) := cc_nd (ch_sI (by unfold PNd; omega)) hn
  have a1 := mq_nx (s' := uA s 8 n 0) a cc1 hn (rx_M w) (gle_refl g) (fun x j h1 h2 => mA_k _ _ _ _ (by omega))
  have xx : ∀ x j, x ≠ 8 → mA (uA s 8 n 0) x j = mA s x j := fun x j hx => mA_k _ _ _ _ hx
  have t1 : tmM (uA s 8 n 0) n = tmM s n := by unfold tmM; rw [xx 2 n (by decide)]
  have e8 : mA (uA s 8 n 0) 8 n = 0 := mA_h _ _ _ _
  unfold fX5_handleAppend gX10_appends
  rw [pI_k (q_k5 w hn), bd_some, st_8 hn, bd_some]
  refine jo_step0 (s1 := uA s 8 n 0) cc1 (ex_uA (by decide)) (gle_refl g) ?_
  generalize sI h (gq 5 4) (ndA X n) 0 = h1 at *
  rw [← xx 15 k (by decide)] at h15
  rw [← xx 19 k (by decide)] at h19
  rw [← xx 20 k (by decide)] at h20
  rw [← xx 21 k (by decide)] at h21
  rw [← xx 22 k (by decide)] at h22
  rw [← xx 1 n (by decide)] at hu
  have hcr' : ∀ j, j < c → crM (uA s 8 n 0) k j = gE g (tmM s n) (p + 1 + j) := fun j hj => by rw [← hcr j hj]; unfold crM; funext y; rw [xx 23 _ (by decide)]
  rw [← t1] at hd h20 pcW hcr' ct tW
  clear w mi a hcr t1 xx cc1
  generalize uA s 8 n 0 = s1 at *
  have lsB := mi_ls m1 n
  obtain ⟨c1, c2, c3⟩ := mi_cm m1 n
  have gWB : gW g (tmM s1 n) ≤ B := m1.2.2.2.1 _
  obtain ⟨q', y, T', e1, e0, e2, e3⟩ := q_snap w1 hn
  have b4 := mi_4 m1 hn
  have b5 := mi_5 m1 hn
  have deny : ∀ v, v ≤ 1200 → JO X M B n 1 h1 s1 g K (bd2 (fX5_reply (ndA X n) q (4 : Int32) (Int32.ofNat v) h1) fun _ h8 => some ((), h8)) (bdm (gX10_answer (4 : Int32) (Int32.ofNat n) (Int32.ofNat m) (Int32.ofNat v) s1) fun _ s6 => some ((), s6)) := fun v hv => jo_id (j_reply (t := 4) (v := Int32.ofNat v) w1 m1 hn hm hnm hK' (by omega) (mq_k a1) (mq_f a1) (mq_z a1) (Or.inr (Or.inr ⟨rfl, v, rfl, hv⟩)))
  have j144 : (p < bsM s1 n ∨ (p ≤ lsM s1 n ∧ Ag (lgM s1 n) (gE g (tmM s1 n)) p)) → JO X M B n 1 h1 s1 g K (fX5_handleAppend_83 (ndA X n) q (mA s1 4 n) h1) (gX10_appends_144 (Int32.ofNat k) (Int32.ofNat n) (Int32.ofNat m) (Int32.ofNat (max p (bsM s1 n))) (Int32.ofNat (min c (bsM s1 n - p))) s1) := fun pl => j_ap144 w1 m1 a1 hn hm hnm hB hK' hu e8 rfl hd h15 h19 h21 h22 hc pc1 pcW ct tW hcr' pl
  have gs : ∀ y, gX10_appends_34 (Int32.ofNat k) (Int32.ofNat n) (Int32.ofNat m) (Int32.ofNat p) 0 y s1 = gX10_appends_86 (Int32.ofNat k) (Int32.ofNat n) (Int32.ofNat m) (Int32.ofNat (max p (bsM s1 n))) (Int32.ofNat (min c (bsM s1 n - p))) y s1 := by
    intro y
    have := g_skips (m := m) (y := y) hn hk h21 hc b4 (by omega) (show p ≤ 1200 by omega) c 0 LF (by omega) (LF_lt (by omega))
    unfold gX10_appends_34
    rw [show (0 : Int32) = Int32.ofNat 0 from rfl]
    rw [Nat.add_zero, Nat.max_eq_right (Nat.zero_le _)] at this
    rw [this]
    unfold gX10_appends_67
    rw [ld_4 hn, bd_some, b4]
    by_cases z : bsM s1 n ≤ p + min c (bsM s1 n - p)
    · rw [if_pos (by rw [io_le (by omega) (by omega)]; exact z), show p + min c (bsM s1 n - p) = max p (bsM s1 n) by omega]
    · rw [if_neg (by rw [io_le (by omega) (by omega)]; exact z), bd_some, show bsM s1 n = max p (bsM s1 n) by omega]
      rw [show max p (max p (bsM s1 n)) = max p (bsM s1 n) by omega]
  simp only [q_disk w1 hn, bd_some, onR_some, e1, sv_b e3, mq_4 a1, h19, q_last w1 hn, ld_19 hk, ld_4 hn, gs]
  by_cases z : bsM s1 n ≤ p
  · have zz : mA s1 4 n ≤ Int32.ofNat p := by rw [b4, io_le (by omega) (by omega)]; exact z
    have zn : ¬ Int32.ofNat p < mA s1 4 n := by rw [b4, io_lt (by omega) (by omega)]; omega
    have em : max p (bsM s1 n) = p := by omega
    simp only [if_pos zz, if_neg zn, if_pos (q_k1 w1 hn)]
    rw [em] at j144 ⊢
    unfold gX10_appends_86
    simp only [ld_5 hn, bd_some]
    by_cases y2 : p ≤ lsM s1 n
    · have yy : Int32.ofNat p ≤ mA s1 5 n := by rw [b5, io_le (by omega) (by omega)]; exact y2
      simp only [if_pos yy, if_true, c_termN w1 m1 hn hB (show p < 100000 by omega), if_pos (And.intro z y2), bd2_some, mq_5 a1, bd_some, g_termAt hn (show p ≤ 1200 by omega), bdm_some, ← lg_0 (s := s1) (n := n) (show p ≤ 1200 by omega), ld_20 hk]
      by_cases y3 : lgM s1 n p 0 = mA s1 20 k
      · simp only [if_pos y3]
        refine j144 (Or.inr ⟨y2, ?_⟩)
        by_cases p0 : p = 0
        · subst p0; intro j hj; rw [show j = 0 by omega, rm_0 m1.1, m1.1.2.1.2.1]
        · refine lm_eq (te := teM) (m1.1.2.2.2.1 n p (by omega) y2) (m1.1.2.2.2.2.1 _ p (by omega) (by omega)) ?_
          show (lgM s1 n p 0).toNatClampNeg = (gE g (tmM s1 n) p 0).toNatClampNeg
          rw [y3, h20]
      · have p0 : p ≠ 0 := fun p0 => y3 (by subst p0; rw [h20, rm_0 m1.1, m1.1.2.1.2.1])
        simp only [if_neg y3, mq_4 a1, h19, bd_some, if_pos (q_k5 w1 hn), io_s1 (show 1 ≤ p by omega)]
        exact deny (p - 1) (by omega)
    · have yy : ¬ Int32.ofNat p ≤ mA s1 5 n := by rw [b5, io_le (by omega) (by omega)]; exact y2
      simp only [if_neg yy, if_pos (q_k5 w1 hn)]
      simp only [b5]
      exact deny (lsM s1 n) (by omega)
  · have zz : ¬ mA s1 4 n ≤ Int32.ofNat p := by rw [b4, io_le (by omega) (by omega)]; exact z
    have zn : Int32.ofNat p < mA s1 4 n := by rw [b4, io_lt (by omega) (by omega)]; omega
    have yy : Int32.ofNat p ≤ mA s1 5 n := by rw [b5, io_le (by omega) (by omega)]; omega
    have ym : Int32.ofNat (max p (bsM s1 n)) ≤ mA s1 5 n := by rw [b5, io_le (by omega) (by omega)]; omega
    simp only [if_neg zz, if_pos yy, if_pos zn]
    unfold gX10_appends_86
    simp only [ld_5 hn, bd_some, if_pos ym, if_neg (show ¬ (1 : Int32) = 0 by decide)]
    exact j144 (Or.inl (by omega))
end
