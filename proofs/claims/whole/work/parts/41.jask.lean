/-- both do f and r, node n acting, at most D messages more -/
def JO (X M B n D : Nat) (h : Hp) (s : MS) (g : GH) (K : Nat) (f : Option (Unit × Hp)) (r : Option (Unit × MS)) : Prop := ∃ h' s' g' K' W', f = some ((), h') ∧ r = some ((), s') ∧ CC X n h h' ∧ RX X M h' s' g' K' ∧ MI s' g' B K' W' ∧ GLe g g' ∧ EX n s s' ∧ K ≤ K' ∧ K' ≤ K + D
theorem jo_here {X M B n D : Nat} {h : Hp} {s : MS} {g : GH} {K W : Nat} (w : RX X M h s g K) (mi : MI s g B K W) : JO X M B n D h s g K (some ((), h)) (some ((), s)) := ⟨h, s, g, K, W, rfl, rfl, cc_refl X n h, w, mi, gle_refl g, ex_refl n s, Nat.le_refl _, by omega⟩
theorem jo_step {X M B n D D1 D2 : Nat} {h h1 : Hp} {s s1 : MS} {g g1 : GH} {K K1 : Nat} {f : Option (Unit × Hp)} {r : Option (Unit × MS)} (c : CC X n h h1) (e : EX n s s1) (gl : GLe g g1) (k1 : K ≤ K1) (k2 : K1 ≤ K + D1) (kd : D1 + D2 ≤ D) (j : JO X M B n D2 h1 s1 g1 K1 f r) : JO X M B n D h s g K f r := by
  obtain ⟨h', s', g', K', W', a1, a2, a3, a4, a5, a6, a7, a8, a9⟩ := j
  exact ⟨h', s', g', K', W', a1, a2, cc_trans c a3, a4, a5, gle_trans gl a6, ex_trans e a7, by omega, by omega⟩
theorem jo_step0 {X M B n D : Nat} {h h1 : Hp} {s s1 : MS} {g g1 : GH} {K : Nat} {f : Option (Unit × Hp)} {r : Option (Unit × MS)} (c : CC X n h h1) (e : EX n s s1) (gl : GLe g g1) (j : JO X M B n D h1 s1 g1 K f r) : JO X M B n D h s g K f r := jo_step c e gl (Nat.le_refl _) (Nat.le_refl (K + 0)) (by omega) j
/-- a bind that only hands on -/
theorem jo_id {X M B n D : Nat} {h : Hp} {s : MS} {g : GH} {K : Nat} {f : Option (Unit × Hp)} {r : Option (Unit × MS)} (j : JO X M B n D h s g K f r) : JO X M B n D h s g K (bd2 f fun _ h1 => some ((), h1)) (bdm r fun _ s1 => some ((), s1)) := by
  obtain ⟨h', s', g', K', W', a1, a2, a3⟩ := j
  exact ⟨h', s', g', K', W', by rw [a1, bd2_some], by rw [a2, bdm_some], a3⟩
theorem jo_idf {X M B n D : Nat} {h : Hp} {s : MS} {g : GH} {K : Nat} {f : Option (Unit × Hp)} {r : Option (Unit × MS)} (j : JO X M B n D h s g K f r) : JO X M B n D h s g K (bd2 f fun _ h1 => some ((), h1)) r := by
  obtain ⟨h', s', g', K', W', a1, a2, a3⟩ := j
  exact ⟨h', s', g', K', W', by rw [a1, bd2_some], a2, a3⟩
theorem jo_idr {X M B n D : Nat} {h : Hp} {s : MS} {g : GH} {K : Nat} {f : Option (Unit × Hp)} {r : Option (Unit × MS)} (j : JO X M B n D h s g K f r) : JO X M B n D h s g K f (bdm r fun _ s1 => some ((), s1)) := by
  obtain ⟨h', s', g', K', W', a1, a2, a3⟩ := j
  exact ⟨h', s', g', K', W', a1, by rw [a2, bdm_some], a3⟩
section
variable {X M : Nat} {h : Hp} {s : MS} {g : GH} {B K W n m q : Nat}
theorem j_reply {t : Nat} {v : Int32} (w : RX X M h s g K) (mi : MI s g B K W) (hn : n < 5) (hm : m < 5) (hnm : n ≠ m) (hK' : K < 3000) (ht : t = 1 ∨ t = 3 ∨ t = 4) (kq : hK h q = some (4, 0)) (iq : hI h (gq 4 1) q = Int32.ofNat m) (zq : q < hZ h) (hb : (t = 1 ∧ (v = 0 ∨ v = 1 ∧ gV g n (tmM s n) = m + 1)) ∨ (t = 3 ∧ ∃ i, v = Int32.ofNat i ∧ 1 ≤ i ∧ i ≤ gA g n (tmM s n)) ∨ (t = 4 ∧ ∃ i, v = Int32.ofNat i ∧ i ≤ 1200)) : JO X M B n 1 h s g K (fX5_reply (ndA X n) q (Int32.ofNat t) v h) (gX10_answer (Int32.ofNat t) (Int32.ofNat n) (Int32.ofNat m) v s) := by
  obtain ⟨h', e1, e2, e3⟩ := c_reply (t := Int32.ofNat t) (v := v) w hn hK' (mi_24 mi) (mi_27 mi) (mi_60 mi) (by rcases ht with h | h | h <;> subst h <;> decide) kq iq zq
  have m1 := mi_plain (t := t) (n := n) (m := m) (T := tmM s n) (a := v) (b := 0) mi hn hm hnm (mi_tB mi n) (Or.inr hb)
  rw [← mi_2 mi hn] at m1
  exact ⟨h', _, g, K + 1, W, e1, g_answer hn (mi_24 mi) hK', e3, e2, m1, gle_refl g, ex_mx mx_oM, by omega, by omega⟩
/-- the message that is delivered -/
def MQq (X M : Nat) (h : Hp) (s : MS) (g : GH) (K q k m : Nat) : Prop := k < K ∧ MV X M h s g q k ∧ mA s 16 k = Int32.ofNat m
theorem mq_step {h' : Hp} {s' : MS} {g' : GH} {k K' : Nat} (a : MQq X M h s g K q k m) (fr : Fr X M h h') (gl : GLe g g') (e : ∀ x, 15 ≤ x → x ≤ 22 → mA s' x k = mA s x k) (ec : ∀ i, i < 4 → crM s' k i = crM s k i) (hK' : K ≤ K') : MQq X M h' s' g' K' q k m := ⟨Nat.lt_of_lt_of_le a.1 hK', mv_fr fr gl e ec a.2.1, by rw [e 16 (by decide) (by decide)]; exact a.2.2⟩
theorem mq_nx {h' : Hp} {s' : MS} {g' : GH} {k b : Nat} (a : MQq X M h s g K q k m) (c : CC X b h h') (hb : b < 5) (hM : M = X + 92) (gl : GLe g g') (e : ∀ x i, 15 ≤ x → x ≤ 25 → mA s' x i = mA s x i) : MQq X M h' s' g' K q k m := mq_step a (cc_fr c hb hM) gl (fun x h1 h2 => e x k h1 (by omega)) (fun i _ => by unfold crM; funext j; rw [e 23 _ (by decide) (by decide)]) (Nat.le_refl _)
theorem mq_k {k : Nat} (a : MQq X M h s g K q k m) : hK h q = some (4, 0) := a.2.1.1.2.1
theorem mq_f {k : Nat} (a : MQq X M h s g K q k m) : hI h (gq 4 1) q = Int32.ofNat m := a.2.1.1.2.2.2.1.trans a.2.2
theorem mq_z {k : Nat} (a : MQq X M h s g K q k m) : q < hZ h := a.2.1.1.1.1
theorem mq_0 {k : Nat} (a : MQq X M h s g K q k m) : gI h 4 0 q = some (mA s 15 k) := by rw [gI_k (mq_k a), a.2.1.1.2.2.1]
theorem mq_1 {k : Nat} (a : MQq X M h s g K q k m) : gI h 4 1 q = some (Int32.ofNat m) := by rw [gI_k (mq_k a), mq_f a]
theorem mq_3 {k : Nat} (a : MQq X M h s g K q k m) : gI h 4 3 q = some (mA s 18 k) := by rw [gI_k (mq_k a), a.2.1.1.2.2.2.2.2.1]
theorem mq_4 {k : Nat} (a : MQq X M h s g K q k m) : gI h 4 4 q = some (mA s 19 k) := by rw [gI_k (mq_k a), a.2.1.1.2.2.2.2.2.2.1]
theorem mq_5 {k : Nat} (a : MQq X M h s g K q k m) : gI h 4 5 q = some (mA s 20 k) := by rw [gI_k (mq_k a), a.2.1.1.2.2.2.2.2.2.2.1]
theorem mq_7 {k : Nat} (a : MQq X M h s g K q k m) : gI h 4 7 q = some (mA s 22 k) := by rw [gI_k (mq_k a), a.2.1.1.2.2.2.2.2.2.2.2]
/-- what is sent to who is behind the receiver's TERM -/
theorem j_old {k : Nat} (w : RX X M h s g K) (mi : MI s g B K W) (a : MQq X M h s g K q k m) (hn : n < 5) (hm : m < 5) (hnm : n ≠ m) (hB : B ≤ 1200) (hK' : K < 3000) : JO X M B n 1 h s g K (fX5_answerOutdated (ndA X n) q h) (bd (ldA s 11 15 (Int32.ofNat k)) fun z19 => if z19 = 0 then (bdm (gX10_answer (1 : Int32) (Int32.ofNat n) (Int32.ofNat m) (0 : Int32) s) fun _ s20 => gX10_got_82 (Int32.ofNat k) (Int32.ofNat n) (Int32.ofNat m) s20) else (gX10_got_82 (Int32.ofNat k) (Int32.ofNat n) (Int32.ofNat m) s)) := by
  have hk : k < 3000 := by have := a.1; omega
  have lsB := mi_ls mi n
  have den : JO X M B n 1 h s g K (fX5_answerOutdated_33 (ndA X n) q h) (gX10_got_102 (Int32.ofNat n) (Int32.ofNat m) s) := by
    unfold fX5_answerOutdated_33 gX10_got_102
    rw [q_disk w hn, bd_some, onR_some, q_last w hn, bd_some, if_pos (q_k5 w hn), ld_5 hn, bd_some]
    exact jo_id (j_reply (t := 4) w mi hn hm hnm hK' (by omega) (mq_k a) (mq_f a) (mq_z a) (Or.inr (Or.inr ⟨rfl, lsM s n, mi_5 mi hn, by omega⟩)))
  unfold fX5_answerOutdated
  simp only [mq_0 a, bd_some, ld_15 hk]
  by_cases z : mA s 15 k = 0
  · simp only [if_pos z, if_pos (q_k5 w hn)]
    obtain ⟨h', s', g', K', W', a1, a2, a3, a4, a5, a6, a7, a8, a9⟩ := j_reply (t := 1) (v := 0) w mi hn hm hnm hK' (by omega) (mq_k a) (mq_f a) (mq_z a) (Or.inl ⟨rfl, Or.inl rfl⟩)
    have a2' : gX10_answer (1 : Int32) (Int32.ofNat n) (Int32.ofNat m) (0 : Int32) s = some ((), s') := a2
    have a1' : fX5_reply (ndA X n) q (1 : Int32) 0 h = some ((), h') := a1
    have e : mA s' 15 k = 0 := by
      rw [g_answer hn (mi_24 mi) hK'] at a2
      have := congrArg (fun o => o.map (fun p => mA p.2 15 k)) a2
      simp only [Option.map_some] at this
      have h2 := Option.some.inj this
      rw [← h2, mA_oM, if_neg (by have := a.1; omega)]; exact z
    refine ⟨h', s', g', K', W', ?_, ?_, a3, a4, a5, a6, a7, a8, a9⟩
    · rw [a1', bd2_some]
    · rw [a2', bdm_some]
      unfold gX10_got_82
      rw [ld_15 hk, bd_some, e, if_neg (by decide), bd_some, if_neg (by decide)]
  · simp only [if_neg z]
    unfold gX10_got_82
    simp only [bd_some, ld_15 hk]
    by_cases z2 : mA s 15 k = 2
    · simp only [if_pos z2]; exact den
    · simp only [if_neg z2]
      by_cases z5 : mA s 15 k = 5
      · simp only [if_pos z5]; exact den
      · simp only [if_neg z5]; exact jo_here w mi
theorem uA_id (s : MS) (k i : Nat) : uA s k i (mA s k i) = s := ms_ext (fun x j => by
  rw [mA_uA]; split
  · rename_i e; rw [e.1, e.2]
  · rfl) (fun _ => rfl)
theorem mi_nnC {c T : Nat} (mi : MI s g B K W) (hc : gV g c T = c + 1) (i : Nat) (hi : i ≤ gN g c T) : 0 ≤ gC g c T i 0 := by
  obtain ⟨r, _, _, _, _, _, _, _, _, l⟩ := mi
  by_cases e : i = 0
  · subst e; rw [r.2.1.2.2.1 c T hc]; exact (by decide : (0 : Int32) ≤ 0)
  · obtain ⟨_, _, _, q3, q4⟩ := r.2.2.2.2.2.1 c T i hc (by omega) hi
    rw [q4 i (Nat.le_refl _)]
    exact (l _ i (by omega) q3).1
theorem mi_voted (mi : MI s g B K W) (hn : n < 5) : (mA s 3 n = -1 → gV g n (tmM s n) = 0) ∧ (∀ m, m < 5 → mA s 3 n = Int32.ofNat m → gV g n (tmM s n) = m + 1) := by
  have v := (mi.2.1 n hn).2.2.2.2.2.2.2.1
  have b := mi.2.2.2.2.1 n (tmM s n)
  constructor
  · intro e
    by_cases z : gV g n (tmM s n) = 0
    · exact z
    · rw [if_neg z, e] at v
      have : gV g n (tmM s n) = 1 ∨ gV g n (tmM s n) = 2 ∨ gV g n (tmM s n) = 3 ∨ gV g n (tmM s n) = 4 ∨ gV g n (tmM s n) = 5 := by omega
      rcases this with h | h | h | h | h <;> rw [h] at v <;> exact absurd v (by decide)
  · intro m hm e
    by_cases z : gV g n (tmM s n) = 0
    · rw [if_pos z, e] at v
      have : m = 0 ∨ m = 1 ∨ m = 2 ∨ m = 3 ∨ m = 4 := by omega
      rcases this with h | h | h | h | h <;> rw [h] at v <;> exact absurd v (by decide)
    · rw [if_neg z, e, io_eq (by omega) (by omega)] at v
      omega
theorem j_ask {k : Nat} (w : RX X M h s g K) (mi : MI s g B K W) (a : MQq X M h s g K q k m) (hn : n < 5) (hm : m < 5) (hnm : n ≠ m) (hB : B ≤ 1200) (hK' : K < 3000) (hv : gV g m (tmM s n) = m + 1) (h19 : mA s 19 k = Int32.ofNat (gN g m (tmM s n))) (h20 : mA s 20 k = gC g m (tmM s n) (gN g m (tmM s n)) 0) (hN : gN g m (tmM s n) < 100000) : JO X M B n 1 h s g K (fX5_handleAsk (ndA X n) q h) (gX10_asked (Int32.ofNat k) (Int32.ofNat n) (Int32.ofNat m) s) := by
  have hk : k < 3000 := by have := a.1; omega
  have lsB := mi_ls mi n
  have bl := Nat.le_trans (mi_cm mi n).2.1 (mi_cm mi n).1
  have b5 := mi_5 mi hn
  have tl := c_termN w mi hn hB (i := lsM s n) (by omega)
  rw [if_pos ⟨bl, Nat.le_refl _⟩] at tl
  have no : JO X M B n 1 h s g K (fX5_handleAsk_92 (ndA X n) q h) (gX10_asked_74 (Int32.ofNat n) (Int32.ofNat m) s) := by
    unfold fX5_handleAsk_92 gX10_asked_74 gX10_asked_75 gX10_asked_108 gX10_asked_122
    rw [if_pos (q_k5 w hn), if_pos rfl, if_pos rfl]
    exact jo_id (j_reply (t := 1) (v := 0) w mi hn hm hnm hK' (by omega) (mq_k a) (mq_f a) (mq_z a) (Or.inl ⟨rfl, Or.inl rfl⟩))
  have own := mi_nn mi n (lsM s n) (Nat.le_refl _)
  have two := mi_nnC mi hv (gN g m (tmM s n)) (Nat.le_refl _)
  have yes : (mA s 3 n = -1 ∨ mA s 3 n = Int32.ofNat m) → (teM (lgM s n (lsM s n)) < teM (gC g m (tmM s n) (gN g m (tmM s n))) ∨ teM (lgM s n (lsM s n)) = teM (gC g m (tmM s n) (gN g m (tmM s n))) ∧ lsM s n ≤ gN g m (tmM s n)) → JO X M B n 1 h s g K (fX5_handleAsk_81 (ndA X n) q 1 1 h) (gX10_asked_70 (Int32.ofNat n) (Int32.ofNat m) s) := by
    intro free up
    unfold fX5_handleAsk_81 gX10_asked_70 gX10_asked_75
    rw [if_neg (by decide), if_neg (by decide), if_neg (by decide)]
    simp only [q_disk w hn, bd_some, onR_some, q_voted w hn, mq_1 a, ld_3 hn]
    by_cases z : mA s 3 n = Int32.ofNat m
    · simp only [if_pos z]
      unfold fX5_handleAsk_140 gX10_asked_108 gX10_asked_122
      rw [if_pos (q_k5 w hn), if_neg (by decide)]
      exact jo_id (j_reply (t := 1) (v := 1) w mi hn hm hnm hK' (by omega) (mq_k a) (mq_f a) (mq_z a) (Or.inl ⟨rfl, Or.inr ⟨rfl, (mi_voted mi hn).2 m hm z⟩⟩))
    · have g0 := (mi_voted mi hn).1 (free.resolve_right z)
      simp only [if_neg z, q_term w hn, bd_some, if_pos (q_k1 w hn), c_vote w hn, g_record hn]
      by_cases p : mA s 10 n = 0
      · simp only [if_pos p, if_true, bdm_some]
        exact ⟨_, _, g, K, W, rfl, rfl, cc_down hn rfl, rx_down w hn, mi_down mi hn, gle_refl g, ex_oD, Nat.le_refl _, by omega⟩
      · simp only [if_neg p, if_neg (show ¬ (1 : Int32) = 0 by decide), bdm_some, st_3 hn, bd_some]
        have w1 := rx_vt w hn (mA s 2 n) (Int32.ofNat m)
        have e : uA (oP n s) 2 n (mA s 2 n) = oP n s := by
          have := uA_id (oP n s) 2 n
          rw [mA_oP _ _ _ (by decide)] at this; exact this
        rw [e] at w1
        obtain ⟨m2, gl, gv⟩ := mi_vote (c := m) (mi_pow n mi) hn hm (by rw [oP_tm]; exact g0) (by rw [oP_tm]; exact hv) (by rw [oP_tm, oP_ls, oP_lg]; exact up)
        have cv : CC X n h (cVt h (ndA X n + 13) (mA s 2 n) (Int32.ofNat m)) := cc_vt hn _ _
        have w2 := rx_gl w1 gl (fun _ => rfl)
        have a2 := mq_nx (s' := uA (oP n s) 3 n (Int32.ofNat m)) a cv hn (rx_M w) gl (fun x i h1 h2 => by rw [mA_k _ _ _ _ (by omega), mA_oP _ _ _ (by omega)])
        refine jo_step0 (s1 := uA (oP n s) 3 n (Int32.ofNat m)) cv (ex_trans ex_oP (ex_uA (by decide))) gl ?_
        unfold fX5_handleAsk_140 gX10_asked_108 gX10_asked_122
        rw [if_pos (q_k5 w2 hn), if_neg (by decide)]
        have tt : tmM (uA (oP n s) 3 n (Int32.ofNat m)) n = tmM (oP n s) n := by unfold tmM; rw [mA_k _ _ _ _ (by decide)]
        exact jo_id (j_reply (t := 1) (v := 1) w2 m2 hn hm hnm hK' (by omega) (mq_k a2) (mq_f a2) (mq_z a2) (Or.inl ⟨rfl, Or.inr ⟨rfl, by rw [tt]; exact gv⟩⟩))
  have cmp : ∀ (y : Int32), y = 0 ∨ y = 1 → (y = 1 → (mA s 3 n = -1 ∨ mA s 3 n = Int32.ofNat m)) → JO X M B n 1 h s g K (fX5_handleAsk_45 (ndA X n) q (lgM s n (lsM s n) 0) y h) (if y = 1 then gX10_asked_33 (Int32.ofNat k) (Int32.ofNat n) (Int32.ofNat m) (lgM s n (lsM s n) 0) s else gX10_asked_74 (Int32.ofNat n) (Int32.ofNat m) s) := by
    intro y hy free
    have n81 : ∀ b, JO X M B n 1 h s g K (fX5_handleAsk_81 (ndA X n) q 0 b h) (gX10_asked_74 (Int32.ofNat n) (Int32.ofNat m) s) := fun b => by unfold fX5_handleAsk_81; rw [if_pos rfl]; exact no
    have n80 : JO X M B n 1 h s g K (fX5_handleAsk_81 (ndA X n) q 1 0 h) (gX10_asked_74 (Int32.ofNat n) (Int32.ofNat m) s) := by unfold fX5_handleAsk_81; rw [if_neg (by decide), if_pos rfl]; exact no
    unfold fX5_handleAsk_45 fX5_handleAsk_76 fX5_handleAsk_80
    simp only [mq_5 a, bd_some]
    rcases hy with hy | hy
    · subst hy
      rw [if_neg (show ¬ (0 : Int32) = 1 by decide)]
      split
      · exact n81 1
      · split
        · simp only [mq_4 a, bd_some, q_disk w hn, onR_some, q_last w hn]
          split
          · exact n81 0
          · exact n81 1
        · exact n81 0
    · subst hy
      rw [if_pos rfl]
      unfold gX10_asked_33
      simp only [ld_20 hk, bd_some]
      by_cases z : lgM s n (lsM s n) 0 < mA s 20 k
      · simp only [if_pos z]
        refine yes (free rfl) (Or.inl ?_)
        rw [h20, te_eq own, te_eq two, io_lt (show teM (lgM s n (lsM s n)) < 2147483648 from Int32.toNatClampNeg_lt _) (show teM (gC g m (tmM s n) (gN g m (tmM s n))) < 2147483648 from Int32.toNatClampNeg_lt _)] at z
        exact z
      · simp only [if_neg z]
        by_cases z2 : mA s 20 k = lgM s n (lsM s n) 0
        · simp only [if_pos z2, mq_4 a, bd_some, q_disk w hn, onR_some, q_last w hn, ld_19 hk, ld_5 hn, h19, b5]
          by_cases z3 : gN g m (tmM s n) < lsM s n
          · rw [if_pos (by rw [io_lt (by omega) (by omega)]; exact z3), if_pos (by rw [io_lt (by omega) (by omega)]; exact z3)]
            exact n80
          · rw [if_neg (by rw [io_lt (by omega) (by omega)]; exact z3), if_neg (by rw [io_lt (by omega) (by omega)]; exact z3)]
            refine yes (free rfl) (Or.inr ⟨?_, by omega⟩)
            rw [h20] at z2
            exact ((te_iff two own).mp z2).symm
        · simp only [if_neg z2]; exact n80
  unfold fX5_handleAsk gX10_asked
  simp only [q_disk w hn, bd_some, onR_some, q_last w hn, if_pos (q_k1 w hn), b5, tl, bd2_some, ld_5 hn, g_termAt hn (show lsM s n ≤ 1200 by omega), bdm_some, ← lg_0 (s := s) (n := n) (show lsM s n ≤ 1200 by omega), q_voted w hn, ld_3 hn]
  by_cases z : mA s 3 n = -1
  · simp only [if_pos z]
    have := cmp 1 (Or.inr rfl) (fun _ => Or.inl z)
    rw [if_pos rfl] at this
    exact this
  · simp only [if_neg z, mq_1 a, bd_some]
    by_cases z2 : mA s 3 n = Int32.ofNat m
    · simp only [if_pos z2]
      have := cmp 1 (Or.inr rfl) (fun _ => Or.inr z2)
      rw [if_pos rfl] at this
      exact this
    · simp only [if_neg z2]
      have := cmp 0 (Or.inl rfl) (fun q => absurd q (by decide))
      rw [if_neg (by decide)] at this
      exact this
end
