section
variable {X M : Nat} {h : Hp} {s : MS} {g : GH} {B K W n : Nat}
theorem c_redB {m p q : Nat} {y : Nat → Nat → Int32} (w : RX X M h s g K) (mi : MI s g B K W) (hn : n < 5) (hm : m < 5) (hB : B ≤ 1200) (hx : mA s 11 (5 * n + m) = Int32.ofNat (p + 1)) (hp : p ≤ lsM s n) (z : ¬ bsM s n ≤ p) (e1 : gR h 1 3 (ndA X n + 13) = some (some q)) (e3 : SV X M h q (mA s 4 n) (y (bsM s n) 0) (rp y (bsM s n))) (ey : y (bsM s n) = lgM s n (bsM s n)) : fX5_sendTo (ndA X n) (Int32.ofNat m) h = bd2 (fX3_send (X + 1) (hZ h) (sR (cMs h 5 (Int32.ofNat n) (Int32.ofNat m) (mA s 2 n) (mA s 4 n) (lgM s n (bsM s n) 0)) (gq 4 8) (hZ h) (some q))) (fun _ h50 => some ((), h50)) := by
  have lsB := mi_ls mi n
  have bl := Nat.le_trans (mi_cm mi n).2.1 (mi_cm mi n).1
  have w1 : RX X M (nO h 4) s g K := rx_new0 w ch_nO
  have b4 := mi_4 mi hn
  have k6 : hK (nO h 4) q = some (6, 0) := ((ch_nO (P := fun _ => False)).2 q e3.1.1 id : SA h (nO h 4) q).1.trans e3.2.1
  have ne : q ≠ hZ h := by have := e3.1.1; omega
  have i61 : hI (nO h 4) (gq 6 1) q = mA s 4 n := by rw [hI_nO, if_neg ne, e3.2.2.1]
  have i62 : hI (nO h 4) (gq 6 2) q = lgM s n (bsM s n) 0 := by rw [hI_nO, if_neg ne, e3.2.2.2.1, ey]
  have cms := ch_ms h 5 (Int32.ofNat n) (Int32.ofNat m) (mA s 2 n) (mA s 4 n) (lgM s n (bsM s n) 0)
  have k4 : hK (cMs h 5 (Int32.ofNat n) (Int32.ofNat m) (mA s 2 n) (mA s 4 n) (lgM s n (bsM s n) 0)) (hZ h) = some (4, 0) := by simp [cMs, hK_sI, hK_nO]
  have c3 : Ch h (sR (cMs h 5 (Int32.ofNat n) (Int32.ofNat m) (mA s 2 n) (mA s 4 n) (lgM s n (bsM s n) 0)) (gq 4 8) (hZ h) (some q)) (fun _ => False) := ch_sRn cms (Nat.le_refl _)
  have w4 := rx_new0 w c3
  unfold fX5_sendTo nwO
  rw [q_nextR w hn, bd_some, onR_some, q_next w hn hm, bd_some, q_disk w hn, bd_some, onR_some, e1, bd_some, onR_some, sv_b e3, bd_some, hx, io_s1 (by omega), Nat.add_sub_cancel, if_neg (by rw [b4, io_le (by omega) (by omega)]; exact z), bd_some, q_num w1 hn, bd_some, q_disk w1 hn, bd_some, onR_some, q_term w1 hn, bd_some, gI_k k6, bd_some, gI_k k6, bd_some, i61, i62, c_ms, bd2_some, pR_k k4, bd_some, q_mail w4 hn, bd_some, onR_some, if_pos (q_k3 w4)]
theorem c_sendB60 {m p : Nat} (w : RX X M h s g K) (mi : MI s g B K W) (hn : n < 5) (hm : m < 5) (hB : B ≤ 1200) (hK' : K < 3000) (hx : mA s 11 (5 * n + m) = Int32.ofNat (p + 1)) (hp : p ≤ lsM s n) (z : ¬ bsM s n ≤ p) (zw : W = 60) : ∃ h', fX5_sendTo (ndA X n) (Int32.ofNat m) h = some ((), h') ∧ CC X n h h' ∧ RX X M h' s g K := by
  obtain ⟨q, y, T, e1, e0, e2, e3⟩ := q_snap w hn
  have ey := mi_base mi e0 e2
  have cms := ch_ms h 5 (Int32.ofNat n) (Int32.ofNat m) (mA s 2 n) (mA s 4 n) (lgM s n (bsM s n) 0)
  have k4 : hK (cMs h 5 (Int32.ofNat n) (Int32.ofNat m) (mA s 2 n) (mA s 4 n) (lgM s n (bsM s n) 0)) (hZ h) = some (4, 0) := by simp [cMs, hK_sI, hK_nO]
  have i4 : hI (cMs h 5 (Int32.ofNat n) (Int32.ofNat m) (mA s 2 n) (mA s 4 n) (lgM s n (bsM s n) 0)) (gq 4 0) (hZ h) = 5 := by simp [cMs, hI_sI, gq]
  have c3 : Ch h (sR (cMs h 5 (Int32.ofNat n) (Int32.ofNat m) (mA s 2 n) (mA s 4 n) (lgM s n (bsM s n) 0)) (gq 4 8) (hZ h) (some q)) (fun _ => False) := ch_sRn cms (Nat.le_refl _)
  have red := c_redB (m := m) w mi hn hm hB hx hp z e1 e3 ey
  generalize cMs h 5 (Int32.ofNat n) (Int32.ofNat m) (mA s 2 n) (mA s 4 n) (lgM s n (bsM s n) 0) = h1 at *
  have w4 := rx_new0 w c3
  refine ⟨_, ?_, cc_none c3, w4⟩
  rw [red]
  have t4 : gI (sR h1 (gq 4 8) (hZ h) (some q)) 4 0 (hZ h) = some 5 := by
    rw [gI_k (h := sR h1 (gq 4 8) (hZ h) (some q)) ((hK_sR _ _ _ _ _).trans k4), hI_sR, i4]
  unfold fX3_send
  rw [q_count w4, bd_some, q_sent w4, bd_some, onR_some, lnA_k (q_kS w4), bd_some, mi_24 mi, if_neg (by rw [io_le (by omega) (by omega)]; omega), t4, bd_some, if_pos rfl, q_scount w4, bd_some, mi_27 mi, if_neg (by rw [show (60 : Int32) = Int32.ofNat 60 from rfl, io_lt (by omega) (by omega)]; omega), bd2_some]
theorem c_sendBm {m p : Nat} (w : RX X M h s g K) (mi : MI s g B K W) (hn : n < 5) (hm : m < 5) (hB : B ≤ 1200) (hK' : K < 3000) (hx : mA s 11 (5 * n + m) = Int32.ofNat (p + 1)) (hp : p ≤ lsM s n) (z : ¬ bsM s n ≤ p) (zw : W < 60) : ∃ h', fX5_sendTo (ndA X n) (Int32.ofNat m) h = some ((), h') ∧ CC X n h h' ∧ RX X M h' (uF (oC 24 (W * 1201 * 8) 13 ((n * 1201 + 0) * 8) ((bsM s n + 1) * 8) (uA (oM K 5 (Int32.ofNat n) (Int32.ofNat m) (mA s 2 n) (Int32.ofNat (bsM s n)) (mA s 13 ((n * 1201 + bsM s n) * 8)) 0 0 s) 25 K (Int32.ofNat W))) 27 (Int32.ofNat (W + 1))) g (K + 1) := by
  have lsB := mi_ls mi n
  have hz : M + 40 ≤ hZ h := w.1.2.2.2.1
  have bl := Nat.le_trans (mi_cm mi n).2.1 (mi_cm mi n).1
  obtain ⟨q, y, T, e1, e0, e2, e3⟩ := q_snap w hn
  have ey := mi_base mi e0 e2
  have b4 := mi_4 mi hn
  have cms := ch_ms h 5 (Int32.ofNat n) (Int32.ofNat m) (mA s 2 n) (mA s 4 n) (lgM s n (bsM s n) 0)
  have k4 : hK (cMs h 5 (Int32.ofNat n) (Int32.ofNat m) (mA s 2 n) (mA s 4 n) (lgM s n (bsM s n) 0)) (hZ h) = some (4, 0) := by simp [cMs, hK_sI, hK_nO]
  have zz : hZ (cMs h 5 (Int32.ofNat n) (Int32.ofNat m) (mA s 2 n) (mA s 4 n) (lgM s n (bsM s n) 0)) = hZ h + 1 := rfl
  have i0 : hI (cMs h 5 (Int32.ofNat n) (Int32.ofNat m) (mA s 2 n) (mA s 4 n) (lgM s n (bsM s n) 0)) (gq 4 0) (hZ h) = 5 := by simp [cMs, hI_sI, gq]
  have i1 : hI (cMs h 5 (Int32.ofNat n) (Int32.ofNat m) (mA s 2 n) (mA s 4 n) (lgM s n (bsM s n) 0)) (gq 4 1) (hZ h) = Int32.ofNat n := by simp [cMs, hI_sI, gq]
  have i2 : hI (cMs h 5 (Int32.ofNat n) (Int32.ofNat m) (mA s 2 n) (mA s 4 n) (lgM s n (bsM s n) 0)) (gq 4 2) (hZ h) = Int32.ofNat m := by simp [cMs, hI_sI, gq]
  have i3 : hI (cMs h 5 (Int32.ofNat n) (Int32.ofNat m) (mA s 2 n) (mA s 4 n) (lgM s n (bsM s n) 0)) (gq 4 3) (hZ h) = mA s 2 n := by simp [cMs, hI_sI, gq]
  have i4 : hI (cMs h 5 (Int32.ofNat n) (Int32.ofNat m) (mA s 2 n) (mA s 4 n) (lgM s n (bsM s n) 0)) (gq 4 4) (hZ h) = mA s 4 n := by simp [cMs, hI_sI, gq]
  have i5 : hI (cMs h 5 (Int32.ofNat n) (Int32.ofNat m) (mA s 2 n) (mA s 4 n) (lgM s n (bsM s n) 0)) (gq 4 5) (hZ h) = lgM s n (bsM s n) 0 := by simp [cMs, hI_sI, gq]
  have i7 : hI (cMs h 5 (Int32.ofNat n) (Int32.ofNat m) (mA s 2 n) (mA s 4 n) (lgM s n (bsM s n) 0)) (gq 4 7) (hZ h) = 0 := by simp [cMs, hI_sI, hI_nO, gq]
  have r6 : hR (cMs h 5 (Int32.ofNat n) (Int32.ofNat m) (mA s 2 n) (mA s 4 n) (lgM s n (bsM s n) 0)) (gq 4 6) (hZ h) = none := by simp [cMs, hR_sI, hR_nO]
  have c3 : Ch h (sR (cMs h 5 (Int32.ofNat n) (Int32.ofNat m) (mA s 2 n) (mA s 4 n) (lgM s n (bsM s n) 0)) (gq 4 8) (hZ h) (some q)) (fun _ => False) := ch_sRn cms (Nat.le_refl _)
  have red := c_redB (m := m) w mi hn hm hB hx hp z e1 e3 ey
  generalize cMs h 5 (Int32.ofNat n) (Int32.ofNat m) (mA s 2 n) (mA s 4 n) (lgM s n (bsM s n) 0) = h1 at *
  have w4 := rx_new0 w c3
  have mv : MV X M (sR h1 (gq 4 8) (hZ h) (some q)) (uF (oC 24 (W * 1201 * 8) 13 ((n * 1201 + 0) * 8) ((bsM s n + 1) * 8) (uA (oM K 5 (Int32.ofNat n) (Int32.ofNat m) (mA s 2 n) (Int32.ofNat (bsM s n)) (mA s 13 ((n * 1201 + bsM s n) * 8)) 0 0 s) 25 K (Int32.ofNat W))) 27 (Int32.ofNat (W + 1))) g (hZ h) K := mv_B hz (by omega) c3 (by rw [hZ_sR, zz]; omega) b4 e0 e2 ey e3 ((hK_sR _ _ _ _ _).trans k4) ((hI_sR _ _ _ _ _ _).trans i0) ((hI_sR _ _ _ _ _ _).trans i1) ((hI_sR _ _ _ _ _ _).trans i2) ((hI_sR _ _ _ _ _ _).trans i3) ((hI_sR _ _ _ _ _ _).trans i4) ((hI_sR _ _ _ _ _ _).trans i5) ((hI_sR _ _ _ _ _ _).trans i7) (by rw [hR_sR, if_neg (by simp [gq]), r6]) (by rw [hR_sR, if_pos ⟨rfl, rfl⟩])
  have xs := mx_oSb (n := n) (m := m) (b := bsM s n) (K := K) (W := W) (s := s)
  have x15 : mA (uF (oC 24 (W * 1201 * 8) 13 ((n * 1201 + 0) * 8) ((bsM s n + 1) * 8) (uA (oM K 5 (Int32.ofNat n) (Int32.ofNat m) (mA s 2 n) (Int32.ofNat (bsM s n)) (mA s 13 ((n * 1201 + bsM s n) * 8)) 0 0 s) 25 K (Int32.ofNat W))) 27 (Int32.ofNat (W + 1))) 15 K = 5 := by rw [mA_uF, mA_oCx _ _ _ _ _ _ _ (by decide), mA_k _ _ _ _ (by decide)]; simp [mA_oM]
  have x24 : mF (uF (oC 24 (W * 1201 * 8) 13 ((n * 1201 + 0) * 8) ((bsM s n + 1) * 8) (uA (oM K 5 (Int32.ofNat n) (Int32.ofNat m) (mA s 2 n) (Int32.ofNat (bsM s n)) (mA s 13 ((n * 1201 + bsM s n) * 8)) 0 0 s) 25 K (Int32.ofNat W))) 27 (Int32.ofNat (W + 1))) 24 = Int32.ofNat (K + 1) := by rw [mF_n _ _ (by decide), mF_oC, mF_uA, mF_oM, if_pos rfl]
  have x27 : mF (uF (oC 24 (W * 1201 * 8) 13 ((n * 1201 + 0) * 8) ((bsM s n + 1) * 8) (uA (oM K 5 (Int32.ofNat n) (Int32.ofNat m) (mA s 2 n) (Int32.ofNat (bsM s n)) (mA s 13 ((n * 1201 + bsM s n) * 8)) 0 0 s) 25 K (Int32.ofNat W))) 27 (Int32.ofNat (W + 1))) 27 = Int32.ofNat (W + 1) := mF_h _ _ _
  generalize uF (oC 24 (W * 1201 * 8) 13 ((n * 1201 + 0) * 8) ((bsM s n + 1) * 8) (uA (oM K 5 (Int32.ofNat n) (Int32.ofNat m) (mA s 2 n) (Int32.ofNat (bsM s n)) (mA s 13 ((n * 1201 + bsM s n) * 8)) 0 0 s) 25 K (Int32.ofNat W))) 27 (Int32.ofNat (W + 1)) = s1 at *
  obtain ⟨h', f1, f2, f3⟩ := c_send w4 hK' (mi_24 mi) (mi_27 mi) (mi_60 mi) (fun x' i h1 h2 => xs.1 x' i (Or.inl (by omega))) (fun x' k h1 h2 hk => xs.2.2.1 x' k (by omega) hk) xs.2.2.2 (fun k hk => xs.2.1 k (by omega) (by omega)) x24 (Or.inl ⟨x15, by omega, x27⟩) mv
  exact ⟨h', by rw [red, f1, bd2_some], cc_trans (cc_none c3) f3, f2⟩
/-- both send -/
theorem j_send {m : Nat} (w : RX X M h s g K) (mi : MI s g B K W) (hn : n < 5) (hm : m < 5) (hnm : n ≠ m) (hB : B ≤ 1200) (hK' : K < 3000) (hu : mA s 1 n = 1) (h2 : mA s 8 n = 2) : ∃ h' s' K' W', fX5_sendTo (ndA X n) (Int32.ofNat m) h = some ((), h') ∧ gX10_send (Int32.ofNat n) (Int32.ofNat m) s = some ((), s') ∧ CC X n h h' ∧ RX X M h' s' g K' ∧ MI s' g B K' W' ∧ MX K s s' ∧ K ≤ K' ∧ K' ≤ K + 1 := by
  have lsB := mi_ls mi n
  have bl := Nat.le_trans (mi_cm mi n).2.1 (mi_cm mi n).1
  have hw := mi_60 mi
  obtain ⟨l1, p, p1, p2, p3⟩ := mi_leadn mi hn h2 hm
  have gs := g_send hn hm p1 (mi_4 mi hn) (mi_5 mi hn) (mi_24 mi) hK' (mi_27 mi) hw p2 (by omega) bl
  by_cases z : bsM s n ≤ p
  · obtain ⟨h', f1, f2, f3⟩ := c_sendA w mi hn hm hB hK' hu p1 p2 z
    rw [oS_a z] at gs
    exact ⟨h', _, K + 1, W, f1, gs, f2, f3, mi_sendA mi hn hm hnm hu h2 hB p2, mx_oSa, by omega, by omega⟩
  · by_cases zw : W = 60
    · obtain ⟨h', f1, f2, f3⟩ := c_sendB60 w mi hn hm hB hK' p1 p2 z zw
      have e : oS n m p (bsM s n) (lsM s n) K W s = s := by unfold oS; rw [if_neg z, if_pos zw]
      rw [e] at gs
      exact ⟨h', s, K, W, f1, gs, f2, f3, mi, mx_refl K s, by omega, by omega⟩
    · obtain ⟨h', f1, f2, f3⟩ := c_sendBm w mi hn hm hB hK' p1 p2 z (by omega)
      rw [oS_b z zw] at gs
      exact ⟨h', _, K + 1, W + 1, f1, gs, f2, f3, mi_sendB mi hn hm hnm h2 hB (by omega) (by omega), mx_oSb, by omega, by omega⟩
end
