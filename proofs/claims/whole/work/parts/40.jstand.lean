theorem g_bad0 {c : Int32} {s : MS} : gX10_bad 0 c s = some (0, uF s 0 0) := by
  unfold gX10_bad wrF; rw [if_pos rfl, bd_some, if_pos (Or.inl rfl)]
theorem g_bad1 {c : Int32} {s : MS} : gX10_bad 1 c s = some (1, uF s 0 c) := by
  unfold gX10_bad wrF; rw [if_neg (by decide), bd_some, if_pos (Or.inr rfl)]
theorem sh_n {n : Nat} (h : n < 5) : (1 : Int32) <<< (Int32.ofNat n &&& 31) = Int32.ofNat (2 ^ n) := by
  have : n = 0 ∨ n = 1 ∨ n = 2 ∨ n = 3 ∨ n = 4 := by omega
  rcases this with h | h | h | h | h <;> subst h <;> decide
theorem rx_F {X M : Nat} {h : Hp} {s : MS} {g : GH} {K k : Nat} {v : Int32} (w : RX X M h s g K) (hk : k ≠ 24 ∧ k ≠ 27 ∧ (k < 28 ∨ 31 < k)) : RX X M h (uF s k v) g K := rx_frame w (fun _ _ _ _ _ => rfl) (fun j hj => mF_n _ _ (by omega))
theorem mi_F {s : MS} {g : GH} {B K W k : Nat} {v : Int32} (mi : MI s g B K W) (hk : k ≠ 24 ∧ k ≠ 27) : MI (uF s k v) g B K W := mi_frame mi (fun _ _ _ _ _ _ => rfl) (mF_n _ _ (fun q => hk.1 q.symm)) (mF_n _ _ (fun q => hk.2 q.symm))
theorem oP_tm (n v : Nat) (s : MS) : tmM (oP n s) v = tmM s v := by unfold tmM; rw [mA_oP _ _ _ (by decide)]
theorem oP_ls (n v : Nat) (s : MS) : lsM (oP n s) v = lsM s v := by unfold lsM; rw [mA_oP _ _ _ (by decide)]
theorem oP_bs (n v : Nat) (s : MS) : bsM (oP n s) v = bsM s v := by unfold bsM; rw [mA_oP _ _ _ (by decide)]
theorem oP_lg (n v i : Nat) (s : MS) : lgM (oP n s) v i = lgM s v i := by unfold lgM; funext j; rw [mA_oP _ _ _ (by decide)]
theorem oP_cm (n v : Nat) (s : MS) : cmM (oP n s) v = cmM s v := by unfold cmM; rw [mA_oP _ _ _ (by decide), mA_oP _ _ _ (by decide), mA_oP _ _ _ (by decide)]
section
variable {X M : Nat} {h : Hp} {s : MS} {g : GH} {B K W n : Nat}
theorem oV_8 (n : Nat) (s : MS) : mA (oV n s) 8 n = 1 := by simp [oV, mA_uA]
theorem ex_oV : EX n s (oV n s) := ex_trans (ex_trans (ex_trans (ex_uA (by decide)) (ex_uA (by decide))) (ex_uA (by decide))) (ex_uA (by decide))
theorem rx_oV (w : RX X M h s g K) (mi : MI s g B K W) (hn : n < 5) : RX X M (sI (sI (cVt h (ndA X n + 13) (mA s 2 n + 1) (Int32.ofNat n)) (gq 5 4) (ndA X n) 1) (gq 5 9) (ndA X n) (Int32.ofNat (2 ^ n))) (oV n (oP n s)) g K := by
  have w1 := rx_cand (v := Int32.ofNat (2 ^ n)) (rx_vt w hn (mA s 2 n + 1) (Int32.ofNat n)) hn
  have e : mA s 2 n + 1 = Int32.ofNat (tmM (oP n s) n + 1) := by rw [oP_tm, ← io_a1, ← mi_2 mi hn]
  unfold oV
  rw [← e]
  exact w1
theorem j_stand (w : RX X M h s g K) (mi : MI s g B K W) (hn : n < 5) (hu : mA s 1 n = 1) (hB : B ≤ 1200) (hT : tmM s n + 1 ≤ B) (hK' : K + 5 < 3000) : ∃ h' s' g' K' W', fX5_standForElection (ndA X n) h = some ((), h') ∧ gX10_expire_45 (Int32.ofNat n) 0 s = some (mF s' 24 - mF s 24, s') ∧ CC X n h h' ∧ RX X M h' s' g' K' ∧ MI s' g' B K' W' ∧ GLe g g' ∧ EX n (uF s 0 0) s' ∧ K ≤ K' ∧ K' ≤ K + 5 := by
  have w0 : RX X M h (uF s 0 0) g K := rx_F w (by decide)
  have mi0 : MI (uF s 0 0) g B K W := mi_F mi (by decide)
  have lsB := mi_ls mi n
  have m24 : mF s 24 = mF (uF s 0 0) 24 := (mF_n _ _ (by decide)).symm
  have t0 : tmM (uF s 0 0) n = tmM s n := rfl
  rw [m24]
  have red : gX10_expire_45 (Int32.ofNat n) 0 s = bdm (gX10_record (Int32.ofNat n) (uF s 0 0)) fun z3 s3 => if z3 = 0 then (some ((0 : Int32), s3)) else (bd (ldA s3 11 2 (Int32.ofNat n)) fun z4 => bd (stA s3 11 2 (Int32.ofNat n) (z4 + (1 : Int32))) fun s5 => bd (stA s5 11 3 (Int32.ofNat n) (Int32.ofNat n)) fun s6 => bd (stA s6 11 8 (Int32.ofNat n) (1 : Int32)) fun s7 => bd (stA s7 11 9 (Int32.ofNat n) ((1 : Int32) <<< (Int32.ofNat n &&& 31))) fun s8 => gX10_expire_104 LF (Int32.ofNat n) (mF (uF s 0 0) 24) (0 : Int32) s8) := by
    unfold gX10_expire_45; rw [g_bad0]; rfl
  rw [red]
  have hu0 : mA (uF s 0 0) 1 n = 1 := hu
  have hT0 : tmM (uF s 0 0) n + 1 ≤ B := hT
  clear red w mi hu hT m24 lsB t0
  generalize uF s 0 0 = s at *
  have lsB := mi_ls mi0 n
  unfold fX5_standForElection
  rw [q_disk w0 hn, bd_some, onR_some, bd_some, onR_some, q_term w0 hn, bd_some, q_num w0 hn, bd_some, if_pos (q_k1 w0 hn), c_vote w0 hn, g_record hn]
  by_cases z : mA s 10 n = 0
  · rw [if_pos z, if_pos z, if_pos rfl, bdm_some, if_pos rfl]
    refine ⟨_, _, g, K, W, rfl, ?_, cc_down hn rfl, rx_down w0 hn, mi_down mi0 hn, gle_refl g, ex_oD, Nat.le_refl _, by omega⟩
    rw [mF_oD, Int32.sub_self]
  · rw [if_neg z, if_neg z, if_neg (by decide), bdm_some, if_neg (by decide), ld_2 hn, bd_some, st_2 hn, bd_some, st_3 hn, bd_some, st_8 hn, bd_some, sh_n hn, st_9 hn, bd_some]
    have e : mA (oP n s) 2 n + 1 = Int32.ofNat (tmM (oP n s) n + 1) := by rw [oP_tm, mA_oP _ _ _ (by decide), ← io_a1, ← mi_2 mi0 hn]
    have m1 := mi_pow n mi0
    obtain ⟨m2, gl⟩ := mi_stand m1 hn (by rw [mA_oP _ _ _ (by decide)]; exact hu0) (by rw [oP_tm]; exact hT0) (by omega)
    have w2 := rx_gl (rx_oV w0 mi0 hn) gl (fun _ => rfl)
    have k5 : hK (cVt h (ndA X n + 13) (mA s 2 n + 1) (Int32.ofNat n)) (ndA X n) = some (5, 0) := q_k5 (rx_vt w0 hn (mA s 2 n + 1) (Int32.ofNat n)) hn
    have wv := rx_vt w0 hn (mA s 2 n + 1) (Int32.ofNat n)
    have cv : CC X n h (cVt h (ndA X n + 13) (mA s 2 n + 1) (Int32.ofNat n)) := cc_vt hn _ _
    generalize cVt h (ndA X n + 13) (mA s 2 n + 1) (Int32.ofNat n) = h1 at *
    have k5' : hK (sI h1 (gq 5 4) (ndA X n) 1) (ndA X n) = some (5, 0) := (hK_sI _ _ _ _ _).trans k5
    have nm : gI (sI h1 (gq 5 4) (ndA X n) 1) 5 6 (ndA X n) = some (Int32.ofNat n) := by
      rw [gI_k k5', hI_sI, if_neg (by simp [gq])]
      have := q_num wv hn
      rw [gI_k k5] at this; exact this
    obtain ⟨h', s', K', W', g1, g2, g3, g4, g5, g6, g7, g8⟩ := j_asks (v0 := mF s 24) hn hB 5 0 8 LF _ _ K W rfl (by decide) (LF_lt (by decide)) w2 m2 (oV_8 n _) (by omega)
    have bl := Nat.le_trans (mi_cm m2 n).2.1 (mi_cm m2 n).1
    have tl := c_termAt w2 m2 hn hB (mA (oV n (oP n s)) 5 n)
    have b4 := mi_4 m2 hn
    have b5 := mi_5 m2 hn
    have lsB2 := mi_ls m2 n
    rw [b4, b5, if_pos (by rw [io_le (by omega) (by omega), io_le (by omega) (by omega)]; exact ⟨bl, Nat.le_refl _⟩), io_cl (by omega), ← b5] at tl
    refine ⟨h', s', _, K', W', ?_, ?_, cc_trans (cc_trans cv (cc_nd (ch_trans (ch_sI (by unfold PNd; omega)) (ch_sI (by unfold PNd; omega))) hn)) g3, g4, g5, gl, ex_trans ex_oP (ex_trans ex_oV (ex_mx g6)), by omega, by omega⟩
    · rw [pI_k k5, bd_some, nm, bd_some, pI_k k5', bd_some, sh_n hn, q_disk w2 hn, bd_some, onR_some, bd_some, onR_some, q_last w2 hn, bd_some, if_pos (q_k1 w2 hn), tl, bd2_some, show (0 : Int32) = Int32.ofNat 0 from rfl]
      exact g1
    · have eo : uA (uA (uA (uA (oP n s) 2 n (mA (oP n s) 2 n + 1)) 3 n (Int32.ofNat n)) 8 n 1) 9 n (Int32.ofNat (2 ^ n)) = oV n (oP n s) := by unfold oV; rw [e]
      rw [eo, show (0 : Int32) = Int32.ofNat 0 from rfl]
      exact g2
end
