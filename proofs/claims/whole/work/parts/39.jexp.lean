/-! ===== both sides act alike ===== -/
/-- s' is s where nobody but node n and the messages is touched -/
def EX (n : Nat) (s s' : MS) : Prop := (∀ x i, 27 ≤ x → mA s' x i = mA s x i) ∧ (∀ f, f ≠ 24 → f ≠ 27 → mF s' f = mF s f) ∧ ∀ v, v ≠ n → mA s' 1 v = mA s 1 v ∧ mA s' 6 v = mA s 6 v
theorem ex_refl (n : Nat) (s : MS) : EX n s s := ⟨fun _ _ _ => rfl, fun _ _ _ => rfl, fun _ _ => ⟨rfl, rfl⟩⟩
theorem ex_trans {n : Nat} {s s' s'' : MS} (p : EX n s s') (q : EX n s' s'') : EX n s s'' := ⟨fun x i a => (q.1 x i a).trans (p.1 x i a), fun f a b => (q.2.1 f a b).trans (p.2.1 f a b), fun v a => ⟨(q.2.2 v a).1.trans (p.2.2 v a).1, (q.2.2 v a).2.trans (p.2.2 v a).2⟩⟩
theorem ex_mx {n K : Nat} {s s' : MS} (p : MX K s s') : EX n s s' := ⟨fun x i a => p.1 x i (by omega), p.2.1, fun v _ => ⟨p.1 1 v (by decide), p.1 6 v (by decide)⟩⟩
theorem ex_uA {n k : Nat} {s : MS} {v : Int32} (h : k < 27) : EX n s (uA s k n v) := ⟨fun x i a => mA_k _ _ _ _ (by omega), fun _ _ _ => rfl, fun w e => ⟨mA_i _ _ _ _ e, mA_i _ _ _ _ e⟩⟩
theorem ex_uX {n k i : Nat} {s : MS} {v : Int32} (h : 6 < k ∧ k < 27) : EX n s (uA s k i v) := ⟨fun x i a => mA_k _ _ _ _ (by omega), fun _ _ _ => rfl, fun w e => ⟨mA_k _ _ _ _ (by omega), mA_k _ _ _ _ (by omega)⟩⟩
theorem ex_oP {n : Nat} {s : MS} : EX n s (oP n s) := by
  unfold oP; split
  · exact ex_refl n s
  · exact ex_uA (by decide)
theorem ex_oD {n : Nat} {s : MS} : EX n s (oD n s) := ex_trans (ex_trans (ex_uA (by decide)) (ex_uA (by decide))) (ex_uA (by decide))
theorem ex_oE {n idx : Nat} {r : Nat → Int32} {s : MS} : EX n s (oE n idx r s) := ⟨fun x i a => mA_oEx _ _ _ (by omega) (by omega), fun _ _ _ => rfl, fun v e => ⟨mA_oEx _ _ _ (by omega) (by omega), mA_oEx _ _ _ (by omega) (by omega)⟩⟩
theorem mi_plain {s : MS} {g : GH} {B K W t n m T : Nat} {a b : Int32} (mi : MI s g B K W) (hn : n < 5) (hm : m < 5) (hnm : n ≠ m) (hT : T ≤ B) (hb : (t = 0 ∧ gV g n T = n + 1 ∧ a = Int32.ofNat (gN g n T) ∧ b = gC g n T (gN g n T) 0) ∨ (t = 1 ∧ (a = 0 ∨ a = 1 ∧ gV g n T = m + 1)) ∨ (t = 3 ∧ ∃ i, a = Int32.ofNat i ∧ 1 ≤ i ∧ i ≤ gA g n T) ∨ (t = 4 ∧ ∃ i, a = Int32.ofNat i ∧ i ≤ 1200)) : MI (oM K (Int32.ofNat t) (Int32.ofNat n) (Int32.ofNat m) (Int32.ofNat T) a b 0 0 s) g B (K + 1) W := by
  have x := mx_oM (K := K) (s := s) (t := Int32.ofNat t) (n := Int32.ofNat n) (m := Int32.ofNat m) (T := Int32.ofNat T) (a := a) (b := b) (c := 0) (d := 0)
  have x19 : mA (oM K (Int32.ofNat t) (Int32.ofNat n) (Int32.ofNat m) (Int32.ofNat T) a b 0 0 s) 19 K = a := by simp [mA_oM]
  have x20 : mA (oM K (Int32.ofNat t) (Int32.ofNat n) (Int32.ofNat m) (Int32.ofNat T) a b 0 0 s) 20 K = b := by simp [mA_oM]
  refine mi_addmsg mi (fun x' i h1 _ _ _ => x.1 x' i (Or.inl h1)) (fun x' i h1 h2 => x.2.2.1 x' i h1 h2) (fun i _ => mA_oMx _ _ _ _ _ _ _ _ _ _ _ (by decide)) (fun i _ => mA_oMx _ _ _ _ _ _ _ _ _ _ _ (by decide)) (by rw [mF_oM, if_pos rfl]) (by rw [mF_oM, if_neg (by decide)]; exact mi_27 mi) (Nat.le_refl _) (mi_60 mi) ⟨t, n, m, T, by simp [mA_oM], by simp [mA_oM], by simp [mA_oM], by simp [mA_oM], hn, hm, hnm, hT, ?_⟩
  unfold MB
  rw [x19, x20]
  rcases hb with h | h | h | h
  · exact Or.inl h
  · exact Or.inr (Or.inl h)
  · exact Or.inr (Or.inr (Or.inr (Or.inl h)))
  · exact Or.inr (Or.inr (Or.inr (Or.inr (Or.inl h))))
section
variable {X M : Nat} {g : GH} {B n : Nat}
theorem i5_le {i : Nat} (h : i < 5) : ¬ (5 : Int32) ≤ Int32.ofNat i := by rw [show (5 : Int32) = Int32.ofNat 5 from rfl, io_le (by omega) (by omega)]; omega
theorem j_all (hn : n < 5) (hB : B ≤ 1200) : ∀ (d i f f' : Nat) (h : Hp) (s : MS) (K W : Nat), i + d = 5 → d < f → d < f' → RX X M h s g K → MI s g B K W → mA s 1 n = 1 → mA s 8 n = 2 → K + d < 3000 → ∃ h' s' K' W', fX5_sendToAll_2 f (ndA X n) (Int32.ofNat i) h = some ((), h') ∧ gX10_sendAll_2 f' (Int32.ofNat n) (Int32.ofNat i) s = some ((), s') ∧ CC X n h h' ∧ RX X M h' s' g K' ∧ MI s' g B K' W' ∧ MX K s s' ∧ K ≤ K' ∧ K' ≤ K + d := by
  intro d
  induction d with
  | zero =>
    intro i f f' h s K W h0 hf hf' w mi hu h2 hK
    obtain ⟨f, rfl⟩ : ∃ g, f = g + 1 := ⟨f - 1, by omega⟩
    obtain ⟨f', rfl⟩ : ∃ g, f' = g + 1 := ⟨f' - 1, by omega⟩
    have e : i = 5 := by omega
    subst e
    refine ⟨h, s, K, W, ?_, ?_, cc_refl X n h, w, mi, mx_refl K s, Nat.le_refl _, Nat.le_refl _⟩
    · show fX5_sendToAll_2_body _ _ _ _ = _
      unfold fX5_sendToAll_2_body
      rw [if_pos (by decide)]
    · show gX10_sendAll_2_body _ _ _ _ = _
      unfold gX10_sendAll_2_body
      rw [if_pos (by decide)]
  | succ d ih =>
    intro i f f' h s K W h0 hf hf' w mi hu h2 hK
    obtain ⟨f, rfl⟩ : ∃ g, f = g + 1 := ⟨f - 1, by omega⟩
    obtain ⟨f', rfl⟩ : ∃ g, f' = g + 1 := ⟨f' - 1, by omega⟩
    have e1 : fX5_sendToAll_2 (f + 1) (ndA X n) (Int32.ofNat i) h = fX5_sendToAll_2_body (fX5_sendToAll_2 f) (ndA X n) (Int32.ofNat i) h := rfl
    have e2 : gX10_sendAll_2 (f' + 1) (Int32.ofNat n) (Int32.ofNat i) s = gX10_sendAll_2_body (gX10_sendAll_2 f') (Int32.ofNat n) (Int32.ofNat i) s := rfl
    rw [e1, e2]
    unfold fX5_sendToAll_2_body gX10_sendAll_2_body gX10_sendAll_18
    rw [if_neg (i5_le (by omega)), if_neg (i5_le (by omega)), q_num w hn, bd_some]
    by_cases z : i = n
    · rw [if_pos (by rw [z]), if_pos (by rw [z]), io_a1]
      obtain ⟨h', s', K', W', g1, g2, g3, g4, g5, g6, g7, g8⟩ := ih (i + 1) f f' h s K W (by omega) (by omega) (by omega) w mi hu h2 (by omega)
      exact ⟨h', s', K', W', g1, g2, g3, g4, g5, g6, g7, by omega⟩
    · have ne : ¬ (Int32.ofNat i = Int32.ofNat n) := by rw [io_eq (by omega) (by omega)]; exact z
      obtain ⟨h1, s1, K1, W1, a1, a2, a3, a4, a5, a6, a7, a8⟩ := j_send (m := i) w mi hn (by omega) (fun q => z q.symm) hB (by omega) hu h2
      obtain ⟨h', s', K', W', g1, g2, g3, g4, g5, g6, g7, g8⟩ := ih (i + 1) f f' h1 s1 K1 W1 (by omega) (by omega) (by omega) a4 a5 (by rw [a6.1 1 n (by decide)]; exact hu) (by rw [a6.1 8 n (by decide)]; exact h2) (by omega)
      rw [if_neg ne, if_neg ne, if_pos (q_k5 w hn), a1, a2, bd2_some, bdm_some, io_a1]
      exact ⟨h', s', K', W', g1, g2, cc_trans a3 g3, g4, g5, mx_trans a6 g6 a7, by omega, by omega⟩
theorem io_lf8 {d : Nat} (h : d < 8) : d < 8 := h
theorem j_sendAll {h : Hp} {s : MS} {K W : Nat} (hn : n < 5) (hB : B ≤ 1200) (w : RX X M h s g K) (mi : MI s g B K W) (hu : mA s 1 n = 1) (h2 : mA s 8 n = 2) (hK : K + 5 < 3000) : ∃ h' s' K' W', fX5_sendToAll (ndA X n) h = some ((), h') ∧ gX10_sendAll (Int32.ofNat n) s = some ((), s') ∧ CC X n h h' ∧ RX X M h' s' g K' ∧ MI s' g B K' W' ∧ MX K s s' ∧ K ≤ K' ∧ K' ≤ K + 5 := by
  obtain ⟨h', s', K', W', g1, g2, g3⟩ := j_all hn hB 5 0 8 LF h s K W rfl (by decide) (LF_lt (by decide)) w mi hu h2 hK
  refine ⟨h', s', K', W', ?_, ?_, g3⟩
  · unfold fX5_sendToAll; rw [show (0 : Int32) = Int32.ofNat 0 from rfl]; exact g1
  · unfold gX10_sendAll; rw [show (0 : Int32) = Int32.ofNat 0 from rfl]; exact g2
theorem mi_cand8 {s : MS} {K W : Nat} (mi : MI s g B K W) (h1 : mA s 8 n = 1) : gV g n (tmM s n) = n + 1 ∧ lsM s n = gN g n (tmM s n) ∧ Ag (lgM s n) (gC g n (tmM s n)) (lsM s n) := by
  obtain ⟨a, b, c, _⟩ := mi.1.2.2.2.2.2.2.2.1 n (rl1 h1)
  exact ⟨a, b, c⟩
theorem j_asks {v0 : Int32} (hn : n < 5) (hB : B ≤ 1200) : ∀ (d i f f' : Nat) (h : Hp) (s : MS) (K W : Nat), i + d = 5 → d < f → d < f' → RX X M h s g K → MI s g B K W → mA s 8 n = 1 → K + d < 3000 → ∃ h' s' K' W', fX5_standForElection_60 f (ndA X n) (lgM s n (lsM s n) 0) (Int32.ofNat i) h = some ((), h') ∧ gX10_expire_104 f' (Int32.ofNat n) v0 (Int32.ofNat i) s = some (mF s' 24 - v0, s') ∧ CC X n h h' ∧ RX X M h' s' g K' ∧ MI s' g B K' W' ∧ MX K s s' ∧ K ≤ K' ∧ K' ≤ K + d := by
  intro d
  induction d with
  | zero =>
    intro i f f' h s K W h0 hf hf' w mi h1 hKb
    obtain ⟨f, rfl⟩ : ∃ g, f = g + 1 := ⟨f - 1, by omega⟩
    obtain ⟨f', rfl⟩ : ∃ g, f' = g + 1 := ⟨f' - 1, by omega⟩
    have e : i = 5 := by omega
    subst e
    refine ⟨h, s, K, W, ?_, ?_, cc_refl X n h, w, mi, mx_refl K s, Nat.le_refl _, Nat.le_refl _⟩
    · show fX5_standForElection_60_body _ _ _ _ _ = _
      unfold fX5_standForElection_60_body
      rw [if_pos (by decide)]
    · show gX10_expire_104_body _ _ _ _ _ = _
      unfold gX10_expire_104_body rdF
      rw [if_pos (by decide), bd_some]
  | succ d ih =>
    intro i f f' h s K W h0 hf hf' w mi h1 hKb
    obtain ⟨f, rfl⟩ : ∃ g, f = g + 1 := ⟨f - 1, by omega⟩
    obtain ⟨f', rfl⟩ : ∃ g, f' = g + 1 := ⟨f' - 1, by omega⟩
    have e1 : fX5_standForElection_60 (f + 1) (ndA X n) (lgM s n (lsM s n) 0) (Int32.ofNat i) h = fX5_standForElection_60_body (fX5_standForElection_60 f) (ndA X n) (lgM s n (lsM s n) 0) (Int32.ofNat i) h := rfl
    have e2 : gX10_expire_104 (f' + 1) (Int32.ofNat n) v0 (Int32.ofNat i) s = gX10_expire_104_body (gX10_expire_104 f') (Int32.ofNat n) v0 (Int32.ofNat i) s := rfl
    rw [e1, e2]
    unfold fX5_standForElection_60_body gX10_expire_104_body gX10_expire_165
    rw [if_neg (i5_le (by omega)), if_neg (i5_le (by omega)), q_num w hn, bd_some]
    by_cases z : i = n
    · rw [if_pos (by rw [z]), if_pos (by rw [z]), io_a1]
      obtain ⟨h', s', K', W', g1, g2, g3, g4, g5, g6, g7, g8⟩ := ih (i + 1) f f' h s K W (by omega) (by omega) (by omega) w mi h1 (by omega)
      exact ⟨h', s', K', W', g1, g2, g3, g4, g5, g6, g7, by omega⟩
    · have ne : ¬ (Int32.ofNat i = Int32.ofNat n) := by rw [io_eq (by omega) (by omega)]; exact z
      have lsB := mi_ls mi n
      have w1 : RX X M (nO h 4) s g K := rx_new0 w ch_nO
      obtain ⟨c1, c2, c3⟩ := mi_cand8 mi h1
      obtain ⟨h1', p1, p2, p3⟩ := c_plain (nn := n) (t := 0) (n := Int32.ofNat n) (m := Int32.ofNat i) (T := mA s 2 n) (a := mA s 5 n) (b := lgM s n (lsM s n) 0) w (by omega) (mi_24 mi) (mi_27 mi) (mi_60 mi) (by decide)
      have k3 : hK (cMs h 0 (Int32.ofNat n) (Int32.ofNat i) (mA s 2 n) (mA s 5 n) (lgM s n (lsM s n) 0)) (X + 1) = some (3, 0) := q_k3 (rx_new0 w (ch_ms h 0 (Int32.ofNat n) (Int32.ofNat i) (mA s 2 n) (mA s 5 n) (lgM s n (lsM s n) 0)))
      have m1 : MI (oM K 0 (Int32.ofNat n) (Int32.ofNat i) (mA s 2 n) (mA s 5 n) (lgM s n (lsM s n) 0) 0 0 s) g B (K + 1) W := by
        have := mi_plain (t := 0) (n := n) (m := i) (T := tmM s n) (a := mA s 5 n) (b := lgM s n (lsM s n) 0) mi hn (by omega) (fun q => z q.symm) (mi_tB mi n) (Or.inl ⟨rfl, c1, by rw [← c2]; exact mi_5 mi hn, by rw [← c2, c3 _ (Nat.le_refl _)]⟩)
        rw [← mi_2 mi hn] at this
        exact this
      have x := mx_oM (K := K) (s := s) (t := 0) (n := Int32.ofNat n) (m := Int32.ofNat i) (T := mA s 2 n) (a := mA s 5 n) (b := lgM s n (lsM s n) 0) (c := 0) (d := 0)
      obtain ⟨h', s', K', W', g1, g2, g3, g4, g5, g6, g7, g8⟩ := ih (i + 1) f f' h1' _ (K + 1) W (by omega) (by omega) (by omega) p2 m1 (by rw [x.1 8 n (by decide)]; exact h1) (by omega)
      rw [mx_ls x, mx_lg x] at g1
      refine ⟨h', s', K', W', ?_, ?_, cc_trans p3 g3, g4, g5, mx_trans x g6 (by omega), by omega, by omega⟩
      · unfold nwO
        rw [if_neg ne, q_mail w hn, bd_some, onR_some, bd_some, q_num w1 hn, bd_some, q_disk w1 hn, bd_some, onR_some, q_term w1 hn, bd_some, bd_some, onR_some, q_last w1 hn, bd_some, c_ms, bd2_some, if_pos k3, p1, bd2_some, io_a1]
        exact g1
      · rw [if_neg ne, g_made hn (mi_24 mi) (by omega), bdm_some, if_pos (by rw [io_nl (by omega)]; trivial), ld_5 hn, bd_some, mA_oMx _ _ _ _ _ _ _ _ _ _ _ (by decide), st_19 (by omega), bd_some, oM_19, ld_5 hn, bd_some, mA_oMx _ _ _ _ _ _ _ _ _ _ _ (by decide), mi_5 mi hn, g_termAt hn (by omega), bdm_some, mA_oMx _ _ _ _ _ _ _ _ _ _ _ (by decide), st_20 (by omega), bd_some, oM_20, io_a1, ← lg_0 (by omega), ← mi_5 mi hn]
        exact g2
end
