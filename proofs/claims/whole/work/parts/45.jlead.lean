/-! ===== a leader begins ===== -/
theorem rx_wit {X M : Nat} {h : Hp} {s : MS} {g g' : GH} {K n T : Nat} (w : RX X M h s g K) (gl : GLe g g') (gd : ∀ t, gD g' t = if t = T then n + 1 else gD g t) : RX X M (tI h (X + 4) T (Int32.ofNat (n + 1))) s g' K := by
  obtain ⟨w1, w2, w3, w4, w5⟩ := w
  have hM : M = X + 92 := w1.2.2.2.2
  have hZ : M + 40 ≤ hZ h := w1.2.2.2.1
  have c : Ch h (tI h (X + 4) T (Int32.ofNat (n + 1))) (fun a => a = X + 4) := ch_tI rfl
  have fr : Fr X M h (tI h (X + 4) T (Int32.ofNat (n + 1))) := fr_ch c (fun a q => by omega)
  have sa : ∀ a, a ≠ X + 4 → SA h (tI h (X + 4) T (Int32.ofNat (n + 1))) a := fun a ha => sa_tI ha
  refine ⟨st_sa w1 c.1 (fun a h1 h2 => ⟨fun _ _ => rfl, rfl, fun _ => rfl⟩), fun v hv => nd_fr fr gl (fun b h1 h2 => sa b (by unfold ndA at *; omega)) (fun _ _ _ => rfl) (fun _ _ _ _ => rfl) (fun _ => rfl) (w2 v hv), ml_fr fr gl (sa _ (by omega)) (sa _ (by omega)) (fun _ _ _ _ => rfl) rfl rfl w3, ⟨w4.1, fun t ht => ?_, fun i q hi hq => ?_⟩, w5⟩
  · rw [aI_tI, gd]
    by_cases e : t = T
    · rw [if_pos ⟨rfl, e⟩, if_pos e]
    · rw [if_neg (fun q => e q.2), if_neg e]; exact w4.2.1 t ht
  · obtain ⟨x, T', k, v1, v2, v3, v4⟩ := w4.2.2 i q hi hq
    exact ⟨x, T', k, cpm_mono gl (Nat.le_refl _) (ag_refl _ _) v1, v2, v3, ev_fr fr v4⟩
theorem c_seeLeader {X M : Nat} {h : Hp} {s : MS} {g : GH} {K n T : Nat} (w : RX X M h s g K) (hn : n < 5) (hT : T < 1024) (h0 : gD g T = 0) : fX8_seeLeader (X + 3) (Int32.ofNat T) (Int32.ofNat n) h = some ((), tI h (X + 4) T (Int32.ofNat (n + 1))) := by
  unfold fX8_seeLeader fX8_seeLeader_45
  have l : ldI h 11 (X + 4) (Int32.ofNat T) = some 0 := by rw [ldI_k (q_kL w) hT (by decide), w.2.2.2.1.2.1 T hT, h0]; rfl
  rw [if_neg (by rw [io_nn (by omega)]; exact id), q_lead w, bd_some, onR_some, lnA_k (q_kL w), bd_some, if_pos (by rw [io_lt (by omega) (by omega)]; exact hT), bd_some, onR_some, l, bd_some, if_pos rfl, bd_some, onR_some, stI_k (q_kL w) hT (by decide), bd_some, io_a1]
/-- the first i of next and match -/
def oN (n i : Nat) (v : Int32) (s : MS) : MS := (fun x j => if x = 11 ∧ 5 * n ≤ j ∧ j < 5 * n + i then v else if x = 12 ∧ 5 * n ≤ j ∧ j < 5 * n + i then 0 else s.1 x j, s.2)
theorem mA_oN (n i : Nat) (v : Int32) (s : MS) (x j : Nat) : mA (oN n i v s) x j = if x = 11 ∧ 5 * n ≤ j ∧ j < 5 * n + i then v else if x = 12 ∧ 5 * n ≤ j ∧ j < 5 * n + i then 0 else mA s x j := rfl
theorem oN_0 (n : Nat) (v : Int32) (s : MS) : oN n 0 v s = s := ms_ext (fun x j => by rw [mA_oN, if_neg (by omega), if_neg (by omega)]) (fun _ => rfl)
theorem oN_s (n i : Nat) (v : Int32) (s : MS) : uA (uA (oN n i v s) 11 (5 * n + i) v) 12 (5 * n + i) 0 = oN n (i + 1) v s := ms_ext (fun x j => by
  rw [mA_uA, mA_uA, mA_oN, mA_oN]
  repeat' split
  all_goals first
    | rfl
    | (exfalso; omega)) (fun _ => rfl)
theorem oN_5 (n : Nat) (s : MS) : oN n 5 (Int32.ofNat (lsM s n + 1)) (uA s 8 n 2) = oL n s := ms_ext (fun x j => by
  rw [mA_oN, mA_oL, mA_uA]
  repeat' split
  all_goals first
    | rfl
    | (exfalso; omega)) (fun _ => rfl)
section
variable {X M : Nat} {g : GH} {B n : Nat}
theorem j_l25 {s : MS} {K : Nat} (hn : n < 5) (h5 : mA s 5 n = Int32.ofNat (lsM s n)) : ∀ (d i f f' : Nat) (h : Hp), i + d = 5 → RX X M h (oN n i (Int32.ofNat (lsM s n + 1)) s) g K → ∃ h', fX5_lead_25 (f + d + 1) (ndA X n) (Int32.ofNat i) h = fX5_lead_25_body (fX5_lead_25 f) (ndA X n) (Int32.ofNat 5) h' ∧ gX10_counts_59 (f' + d + 1) (Int32.ofNat n) (Int32.ofNat i) (oN n i (Int32.ofNat (lsM s n + 1)) s) = gX10_counts_59_body (gX10_counts_59 f') (Int32.ofNat n) (Int32.ofNat 5) (oN n 5 (Int32.ofNat (lsM s n + 1)) s) ∧ CC X n h h' ∧ RX X M h' (oN n 5 (Int32.ofNat (lsM s n + 1)) s) g K := by
  intro d
  induction d with
  | zero =>
    intro i f f' h h0 w
    have e : i = 5 := by omega
    subst e
    exact ⟨h, rfl, rfl, cc_refl X n h, w⟩
  | succ d ih =>
    intro i f f' h h0 w
    have w1 := rx_next (m := i) (v := Int32.ofNat (lsM s n + 1)) w hn (by omega)
    have w2 := rx_match (m := i) (v := 0) w1 hn (by omega)
    rw [oN_s] at w2
    obtain ⟨h', g1, g2, g3, g4⟩ := ih (i + 1) f f' _ (by omega) w2
    have x5 : mA (oN n i (Int32.ofNat (lsM s n + 1)) s) 5 n = Int32.ofNat (lsM s n) := by rw [mA_oN, if_neg (by omega), if_neg (by omega)]; exact h5
    refine ⟨h', ?_, ?_, cc_trans (cc_nd (ch_trans (ch_tI (by unfold PNd; omega)) (ch_tI (by unfold PNd; omega))) hn) g3, g4⟩
    · have e : fX5_lead_25 (f + (d + 1) + 1) (ndA X n) (Int32.ofNat i) h = fX5_lead_25_body (fX5_lead_25 (f + d + 1)) (ndA X n) (Int32.ofNat i) h := rfl
      rw [e]
      refine Eq.trans ?_ g1
      unfold fX5_lead_25_body
      rw [if_neg (i5_le (by omega)), q_nextR w hn, bd_some, onR_some, q_disk w hn, bd_some, onR_some, q_last w hn, bd_some, x5, io_a1, stI_k (q_k11 w hn) (show i < 5 by omega) (by decide), bd_some, q_matchR w1 hn, bd_some, onR_some, stI_k (q_k12 w1 hn) (show i < 5 by omega) (by decide), bd_some, io_a1]
    · have e : gX10_counts_59 (f' + (d + 1) + 1) (Int32.ofNat n) (Int32.ofNat i) (oN n i (Int32.ofNat (lsM s n + 1)) s) = gX10_counts_59_body (gX10_counts_59 (f' + d + 1)) (Int32.ofNat n) (Int32.ofNat i) (oN n i (Int32.ofNat (lsM s n + 1)) s) := rfl
      rw [e]
      refine Eq.trans ?_ g2
      unfold gX10_counts_59_body
      rw [if_neg (i5_le (by omega)), ld_5 hn, bd_some, x5, io_m5, io_ad, io_a1, st_11 (by omega), bd_some, st_12 (by omega), bd_some, io_a1, oN_s]
theorem legal0 {t : Int32} (h : 0 ≤ t) : legalE (rw8 (ro8 t 0 0 0 0 0 0 0)) := ⟨by show 0 ≤ t; exact h, Or.inl rfl⟩
theorem j_lead {h : Hp} {s : MS} {K W : Nat} (w : RX X M h s g K) (mi : MI s g B K W) (hn : n < 5) (hu : mA s 1 n = 1) (h1 : mA s 8 n = 1) (h3 : M3 (fun w => vsM s n w)) (hB : B < 1024) (hl : lsM s n + 1 ≤ B) (hK' : K + 5 < 3000) : JO X M B n 5 h s g K (fX5_lead (ndA X n) h) (gX10_counts_59 LF (Int32.ofNat n) (Int32.ofNat 0) (uA s 8 n 2)) := by
  have tB := mi_tB mi n
  have r1 := rm_lead mi.1 hn (rl1 h1) h3
  have d0 : gD g (tmM s n) = 0 := r_nold mi.1 (rl1 h1) h3
  have w1 := rx_role (r := 2) w hn (by decide)
  have c1 : CC X n h (sI h (gq 5 4) (ndA X n) 2) := cc_nd (ch_sI (by unfold PNd; omega)) hn
  have sl := c_seeLeader w1 hn (show tmM s n < 1024 by omega) d0
  have w2 := rx_wit (n := n) (T := tmM s n) w1 r1.2 (fun t => rfl)
  have c2 : CC X n (sI h (gq 5 4) (ndA X n) 2) (tI (sI h (gq 5 4) (ndA X n) 2) (X + 4) (tmM s n) (Int32.ofNat (n + 1))) := ch_tI (Or.inl ⟨by omega, by omega⟩)
  have m2 : mA (uA s 8 n 2) 2 n = Int32.ofNat (tmM s n) := by rw [mA_k _ _ _ _ (by decide)]; exact mi_2 mi hn
  have e8 : lsM (uA s 8 n 2) n = lsM s n := by unfold lsM; rw [mA_k _ _ _ _ (by decide)]
  have h58 : mA (uA s 8 n 2) 5 n = Int32.ofNat (lsM (uA s 8 n 2) n) := by rw [e8, mA_k _ _ _ _ (by decide)]; exact mi_5 mi hn
  unfold fX5_lead
  rw [pI_k (q_k5 w hn), bd_some, q_wit w1 hn, bd_some, onR_some, q_disk w1 hn, bd_some, onR_some, q_term w1 hn, bd_some, q_num w1 hn, bd_some, if_pos (q_k8 w1), m2, sl, bd2_some]
  generalize tI (sI h (gq 5 4) (ndA X n) 2) (X + 4) (tmM s n) (Int32.ofNat (n + 1)) = h2 at *
  generalize sI h (gq 5 4) (ndA X n) 2 = h1' at *
  have w20 : RX X M h2 (oN n 0 (Int32.ofNat (lsM (uA s 8 n 2) n + 1)) (uA s 8 n 2)) (jL n s g) K := by rw [oN_0]; exact w2
  obtain ⟨h3', f1, f2, f3, f4⟩ := j_l25 (s := uA s 8 n 2) hn h58 5 0 999994 999994 h2 rfl w20
  rw [oN_0, e8, oN_5] at f2
  rw [e8, oN_5] at f4
  have eL : LF = 999994 + 5 + 1 := rfl
  rw [eL, show (0 : Int32) = Int32.ofNat 0 from rfl, f1, f2]
  have cc := cc_trans (cc_trans c1 c2) f3
  have x5 : mA (oL n s) 5 n = Int32.ofNat (lsM s n) := by rw [mA_oLx _ _ (by decide)]; exact mi_5 mi hn
  have xl : lsM (oL n s) n = lsM s n := oL_ls n n s
  have x2 : mA (oL n s) 2 n = mA s 2 n := mA_oLx _ _ (by decide)
  have ex : EX n s (oL n s) := ⟨fun x i h => mA_oLx _ _ (by omega), fun _ _ _ => rfl, fun v _ => ⟨mA_oLx _ _ (by decide), mA_oLx _ _ (by decide)⟩⟩
  unfold fX5_lead_25_body gX10_counts_59_body
  have le12 : ¬ (1200 : Int32) ≤ Int32.ofNat (lsM s n) := by rw [show (1200 : Int32) = Int32.ofNat 1200 from rfl, io_le (by omega) (by omega)]; omega
  rw [if_pos (show (5 : Int32) ≤ Int32.ofNat 5 by decide), if_pos (show (5 : Int32) ≤ Int32.ofNat 5 by decide), q_disk f4 hn, bd_some, onR_some, q_last f4 hn, bd_some, x5, if_neg le12, ld_5 hn, bd_some, x5, if_neg le12]
  unfold nwO
  rw [bd_some]
  have kz : hK (nO h3' 0) (hZ h3') = some (0, 0) := by rw [hK_nO, if_pos rfl]
  let h7 := sI (sI (sI (sI (sI (sI (sI (nO h3' 0) (gq 0 0) (hZ h3') 0) (gq 0 1) (hZ h3') 0) (gq 0 2) (hZ h3') 0) (gq 0 3) (hZ h3') 0) (gq 0 4) (hZ h3') 0) (gq 0 5) (hZ h3') 0) (gq 0 6) (hZ h3') 0
  have i7 : fX0_init (hZ h3') 0 0 0 0 0 0 0 (nO h3' 0) = some ((), h7) := by
    simp only [fX0_init, pI, hK_sI, kz, if_true, bd_some]; rfl
  have c7 : Ch h3' h7 (fun _ => False) := ch_sIn (ch_sIn (ch_sIn (ch_sIn (ch_sIn (ch_sIn (ch_sIn ch_nO (Nat.le_refl _)) (Nat.le_refl _)) (Nat.le_refl _)) (Nat.le_refl _)) (Nat.le_refl _)) (Nat.le_refl _)) (Nat.le_refl _)
  have w7 : RX X M h7 (oL n s) (jL n s g) K := rx_new0 f4 c7
  have k7 : hK h7 (hZ h3') = some (0, 0) := by
    show hK (sI _ _ _ _) _ = _
    rw [hK_sI, hK_sI, hK_sI, hK_sI, hK_sI, hK_sI, hK_sI]; exact kz
  have z7 : hZ h3' < hZ h7 := by show hZ h3' < hZ h3' + 1; omega
  have e7 : ∀ j, j < 7 → hI h7 (gq 0 j) (hZ h3') = 0 := by
    intro j hj
    have : j = 0 ∨ j = 1 ∨ j = 2 ∨ j = 3 ∨ j = 4 ∨ j = 5 ∨ j = 6 := by omega
    show hI (sI (sI (sI (sI (sI (sI (sI (nO h3' 0) (gq 0 0) (hZ h3') 0) (gq 0 1) (hZ h3') 0) (gq 0 2) (hZ h3') 0) (gq 0 3) (hZ h3') 0) (gq 0 4) (hZ h3') 0) (gq 0 5) (hZ h3') 0) (gq 0 6) (hZ h3') 0) (gq 0 j) (hZ h3') = 0
    rcases this with e | e | e | e | e | e | e <;> subst e <;> simp [hI_sI, gq]
  rw [i7, bd2_some]
  generalize h7 = h8 at *
  have hzM : M + 40 ≤ hZ h3' := f4.1.2.2.2.1
  obtain ⟨h9, p1, p2, p3, p4⟩ := j_len (c := hZ h3') (k := 0) (a := 0) (b := 0) (x := 0) (y := 0) (z := 0) (v := 0) w7 hn (by rw [xl]; exact x5) (by rw [xl]; omega) ⟨z7, by omega⟩ k7 (fun j hj => by
    rw [e7 j hj]
    have : j = 0 ∨ j = 1 ∨ j = 2 ∨ j = 3 ∨ j = 4 ∨ j = 5 ∨ j = 6 := by omega
    rcases this with e | e | e | e | e | e | e <;> subst e <;> rfl)
  have x10 : mA (oL n s) 10 n = mA s 10 n := mA_oLx _ _ (by decide)
  rw [x10] at p1
  rw [x10, x2, xl] at p2 p4
  rw [if_pos (q_k5 w7 hn), p1, p2, bd2_some, bdm_some]
  have gl2 := (rm_push (e := ro8 (mA s 2 n) 0 0 0 0 0 0 0) r1.1 (n := n) (rl2 (oL_rl n s)) (by rw [xl]; omega) (by rw [te_rw, oL_tm]; rfl)).2
  by_cases p : mA s 10 n = 0
  · rw [if_pos p] at p4
    simp only [if_pos p, if_true]
    have md := mi_leadD mi hn h1 h3
    exact ⟨h9, _, jL n s g, K, W, rfl, rfl, cc_trans cc (cc_trans (cc_none c7) p3), p4, mi_oDf md.1, r1.2, ex_trans ex (ex_trans ex_oF ex_oD), Nat.le_refl _, by omega⟩
  · rw [if_neg p] at p4
    simp only [if_neg p, if_neg (show ¬ (1 : Int32) = 0 by decide)]
    have ml := mi_lead (e := ro8 (mA s 2 n) 0 0 0 0 0 0 0) mi hn hu h1 h3 hl (by omega) rfl (legal0 (mi.2.1 n hn).2.1)
    have w9 := rx_gl p4 gl2 (fun _ => rfl)
    have m9 : MI (oE n (lsM s n + 1) (ro8 (mA s 2 n) 0 0 0 0 0 0 0) (oP n (oF (mA s 2 n) 0 0 0 0 0 0 0 (oL n s)))) (hP n (ro8 (mA s 2 n) 0 0 0 0 0 0 0) (oL n s) (jL n s g)) B K W := mi_oEf ml.1
    have u9 : mA (oE n (lsM s n + 1) (ro8 (mA s 2 n) 0 0 0 0 0 0 0) (oP n (oF (mA s 2 n) 0 0 0 0 0 0 0 (oL n s)))) 1 n = 1 := by rw [mA_oEx _ _ _ (by omega) (by omega), mA_oP _ _ _ (by decide), mA_oFx _ _ (by decide), mA_oLx _ _ (by decide)]; exact hu
    have r9 : mA (oE n (lsM s n + 1) (ro8 (mA s 2 n) 0 0 0 0 0 0 0) (oP n (oF (mA s 2 n) 0 0 0 0 0 0 0 (oL n s)))) 8 n = 2 := by rw [mA_oEx _ _ _ (by omega) (by omega), mA_oP _ _ _ (by decide), mA_oFx _ _ (by decide), oL_rl]
    obtain ⟨h', s', K', W', q1, q2, q3, q4, q5, q6, q7, q8⟩ := j_sendAll hn (show B ≤ 1200 by omega) w9 m9 u9 r9 hK'
    unfold fX5_lead_93 gX10_counts_130
    exact ⟨h', s', _, K', W', by rw [if_pos (q_k5 w9 hn), q1, bd2_some], by rw [q2, bdm_some], cc_trans cc (cc_trans (cc_none c7) (cc_trans p3 q3)), q4, q5, gle_trans r1.2 gl2, ex_trans ex (ex_trans ex_oF (ex_trans ex_oP (ex_trans ex_oE (ex_mx q6)))), q7, q8⟩
theorem j_vote {h : Hp} {s : MS} {K W q k m : Nat} (w : RX X M h s g K) (mi : MI s g B K W) (a : MQq X M h s g K q k m) (hn : n < 5) (hm : m < 5) (hu : mA s 1 n = 1) (h1 : mA s 8 n = 1) (h19 : mA s 19 k = 1) (hv : gV g m (tmM s n) = n + 1) (hB : B < 1024) (hl : lsM s n + 1 ≤ B) (hK' : K + 5 < 3000) : JO X M B n 5 h s g K (fX5_handleVote (ndA X n) q h) (gX10_counts (Int32.ofNat n) (Int32.ofNat m) s) := by
  obtain ⟨V, V1, V2⟩ := (mi.2.1 n hn).2.2.2.2.2.2.2.2.1 h1
  have vl := bit_lt V V1 m hm
  have m1 : MI (uA s 9 n (Int32.ofNat (V ||| 2 ^ m))) g B K W := mi_count mi hn vl (fun x hx hb => by
    rcases bit_tb V V1 m hm x hx hb with z | z
    · exact Or.inl (by unfold vsM; rw [V2, io_cl (by omega)]; exact z)
    · rw [z]; exact Or.inr hv)
  have w1 := rx_votes (v := Int32.ofNat (V ||| 2 ^ m)) w hn
  have c1 : CC X n h (sI h (gq 5 9) (ndA X n) (Int32.ofNat (V ||| 2 ^ m))) := cc_nd (ch_sI (by unfold PNd; omega)) hn
  have r8 : mA (uA s 9 n (Int32.ofNat (V ||| 2 ^ m))) 8 n = 1 := by rw [mA_k _ _ _ _ (by decide)]; exact h1
  have v9 : mA (uA s 9 n (Int32.ofNat (V ||| 2 ^ m))) 9 n = Int32.ofNat (V ||| 2 ^ m) := mA_h _ _ _ _
  have pl := pc_le (V ||| 2 ^ m)
  unfold fX5_handleVote
  rw [q_role w hn, bd_some, if_pos h1, mq_4 a, bd_some, if_pos h19, q_votes w hn h1, bd_some, mq_1 a, bd_some, V2, bit_or V V1 m hm, pI_k (q_k5 w hn), bd_some, q_votes w1 hn r8, bd_some, v9, bc_eq, bc_pc _ vl, bd2_some, g_counts hn hm V2 V1]
  by_cases z : pc5 (V ||| 2 ^ m) < 3
  · rw [if_pos (by rw [show (3 : Int32) = Int32.ofNat 3 from rfl, io_lt (by omega) (by omega)]; exact z), if_pos z]
    exact jo_step0 c1 (ex_uA (by decide)) (gle_refl g) (jo_here w1 m1)
  · rw [if_neg (by rw [show (3 : Int32) = Int32.ofNat 3 from rfl, io_lt (by omega) (by omega)]; exact z), if_neg z, if_pos (q_k5 w1 hn)]
    have t1 : ∀ v, tmM (uA s 9 n (Int32.ofNat (V ||| 2 ^ m))) v = tmM s v := fun v => by unfold tmM; rw [mA_k _ _ _ _ (by decide)]
    have l1 : lsM (uA s 9 n (Int32.ofNat (V ||| 2 ^ m))) n = lsM s n := by unfold lsM; rw [mA_k _ _ _ _ (by decide)]
    refine jo_step0 (s1 := uA s 9 n (Int32.ofNat (V ||| 2 ^ m))) c1 (ex_uA (by decide)) (gle_refl g) (jo_idf (j_lead w1 m1 hn (by rw [mA_k _ _ _ _ (by decide)]; exact hu) r8 (m3_mono (m3_pc (V := V ||| 2 ^ m) (by omega)) (fun x _ hx => ?_)) hB (by rw [l1]; exact hl) hK'))
    unfold vsM; rw [v9, io_cl (by omega)]; exact hx
end
