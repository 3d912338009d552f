/-! ===== the class sends ===== -/
/-- what a call on node b may change -/
def PC (X b a : Nat) : Prop := (X + 1 ≤ a ∧ a ≤ X + 5) ∨ PNd X b a
def CC (X b : Nat) (h h' : Hp) : Prop := Ch h h' (PC X b)
theorem cc_refl (X b : Nat) (h : Hp) : CC X b h h := ch_refl h _
theorem cc_trans {X b : Nat} {h h' h'' : Hp} (p : CC X b h h') (q : CC X b h' h'') : CC X b h h'' := ch_trans p q
theorem cc_nd {X n : Nat} {h h' : Hp} (c : Ch h h' (PNd X n)) (hn : n < 5) : CC X n h h' := ch_mono c (fun a _ q => Or.inr q)
theorem cc_fr {X M b : Nat} {h h' : Hp} (c : CC X b h h') (hb : b < 5) (hM : M = X + 92) : Fr X M h h' := fr_ch c (fun a q => by unfold PC PNd ndA at q; omega)
theorem cc_none {X b : Nat} {h h' : Hp} (c : Ch h h' (fun _ => False)) : CC X b h h' := ch_mono c (fun _ _ q => q.elim)
theorem rx_new {X M : Nat} {h h' : Hp} {s : MS} {g : GH} {K : Nat} (w : RX X M h s g K) (c : Ch h h' (fun a => M ≤ a ∧ a < M + 40)) : RX X M h' s g K := by
  obtain ⟨w1, w2, w3, w4, w5⟩ := w
  have hM : M = X + 92 := w1.2.2.2.2
  have hZ : M + 40 ≤ hZ h := w1.2.2.2.1
  have fr : Fr X M h h' := ⟨c.1, fun a ha => c.2 a ha.1 (fun q => by have := ha.2; omega)⟩
  have sa : ∀ a, a < M → SA h h' a := fun a ha => c.2 a (by omega) (by omega)
  refine ⟨st_sa w1 c.1 (fun a h1 h2 => ?_), fun v hv => nd_fr fr (gle_refl g) (fun b h1 h2 => sa b (by unfold ndA at *; omega)) (fun _ _ _ => rfl) (fun _ _ _ _ => rfl) (fun _ => rfl) (w2 v hv), ml_fr fr (gle_refl g) (sa _ (by omega)) (sa _ (by omega)) (fun _ _ _ _ => rfl) rfl rfl w3, wi_fr fr (gle_refl g) (fun _ => rfl) (sa _ (by omega)) (sa _ (by omega)) (sa _ (by omega)) w4, ?_⟩
  · have z := sa a (by omega)
    exact ⟨fun f _ => z.2.2.2.1 f, z.1, fun _ => z.2.2.2.2.2.2⟩
  · have z := (sa X (by omega)).2.1
    unfold MO
    rw [z, z, z, z]; exact w5
theorem rx_new0 {X M : Nat} {h h' : Hp} {s : MS} {g : GH} {K : Nat} (w : RX X M h s g K) (c : Ch h h' (fun _ => False)) : RX X M h' s g K := rx_new w (ch_mono c (fun _ _ q => q.elim))
/-- the ghosts grow, nobody leads anew -/
theorem rx_gl {X M : Nat} {h : Hp} {s : MS} {g g' : GH} {K : Nat} (w : RX X M h s g K) (gl : GLe g g') (gd : ∀ T, gD g' T = gD g T) : RX X M h s g' K := by
  obtain ⟨w1, w2, w3, w4, w5⟩ := w
  have fr : Fr X M h h := ⟨Nat.le_refl _, fun a _ => sa_refl h a⟩
  exact ⟨w1, fun v hv => nd_fr fr gl (fun b _ _ => sa_refl h b) (fun _ _ _ => rfl) (fun _ _ _ _ => rfl) (fun _ => rfl) (w2 v hv), ml_fr fr gl (sa_refl h _) (sa_refl h _) (fun _ _ _ _ => rfl) rfl rfl w3, wi_fr fr gl gd (sa_refl h _) (sa_refl h _) (sa_refl h _) w4, w5⟩
/-- rows that the class doesn't know -/
theorem rx_frame {X M : Nat} {h : Hp} {s s' : MS} {g : GH} {K : Nat} (w : RX X M h s g K) (e : ∀ x i, 1 ≤ x → x ≤ 25 → x ≠ 14 → mA s' x i = mA s x i) (f : ∀ k, k = 24 ∨ k = 27 ∨ (28 ≤ k ∧ k ≤ 31) → mF s' k = mF s k) : RX X M h s' g K := by
  obtain ⟨w1, w2, w3, w4, w5⟩ := w
  have fr : Fr X M h h := ⟨Nat.le_refl _, fun a _ => sa_refl h a⟩
  refine ⟨w1, fun v hv => nd_fr fr (gle_refl g) (fun b _ _ => sa_refl h b) (fun x h1 h2 => e x v h1 (by omega) (by omega)) (fun x m h1 h2 => e x _ (by omega) (by omega) (by omega)) (fun i => by unfold lgM; funext j; rw [e 13 _ (by decide) (by decide) (by decide)]) (w2 v hv), ml_fr fr (gle_refl g) (sa_refl h _) (sa_refl h _) (fun x i h1 h2 => e x i (by omega) h2 (by omega)) (f _ (by decide)) (f _ (by decide)) w3, w4, ?_⟩
  unfold MO
  rw [f 28 (by decide), f 29 (by decide), f 30 (by decide), f 31 (by decide)]; exact w5
theorem rx_mail {X M : Nat} {h h' : Hp} {s s' : MS} {g : GH} {K q : Nat} (w : RX X M h s g K) (c : Ch h h' (fun a => a = X + 1 ∨ a = X + 2)) (k1 : hK h' (X + 1) = hK h (X + 1)) (k2 : hK h' (X + 2) = hK h (X + 2)) (r1 : ∀ f, hR h' f (X + 1) = hR h f (X + 1)) (i1 : hI h' (gq 3 1) (X + 1) = mF s' 24) (i2 : hI h' (gq 3 2) (X + 1) = mF s' 27) (a1 : ∀ k, k < K → aR h' (X + 2) k = aR h (X + 2) k) (a2 : aR h' (X + 2) K = some q) (e : ∀ x i, 1 ≤ x → x ≤ 13 → mA s' x i = mA s x i) (e1 : ∀ x k, 15 ≤ x → x ≤ 22 → k < K → mA s' x k = mA s x k) (e2 : ∀ k i, k < K → i < 4 → crM s' k i = crM s k i) (f : ∀ k, 28 ≤ k ∧ k ≤ 31 → mF s' k = mF s k) (mv : MV X M h s' g q K) : RX X M h' s' g (K + 1) := by
  obtain ⟨w1, w2, w3, w4, w5⟩ := w
  have hM : M = X + 92 := w1.2.2.2.2
  have hZ : M + 40 ≤ hZ h := w1.2.2.2.1
  have fr : Fr X M h h' := fr_ch c (fun a q => by omega)
  have sa : ∀ a, a < M → a ≠ X + 1 → a ≠ X + 2 → SA h h' a := fun a ha h1 h2 => c.2 a (by omega) (by omega)
  refine ⟨st_sa w1 c.1 (fun a h1 h2 => ?_), fun v hv => nd_fr fr (gle_refl g) (fun b h1 h2 => sa b (by unfold ndA at *; omega) (by unfold ndA at *; omega) (by unfold ndA at *; omega)) (fun x h1 h2 => e x v h1 (by omega)) (fun x m h1 h2 => e x _ (by omega) (by omega)) (fun i => by unfold lgM; funext j; rw [e 13 _ (by decide) (by decide)]) (w2 v hv), ⟨i1, i2, fun k hk => ?_⟩, wi_fr fr (gle_refl g) (fun _ => rfl) (sa _ (by omega) (by omega) (by omega)) (sa _ (by omega) (by omega) (by omega)) (sa _ (by omega) (by omega) (by omega)) w4, ?_⟩
  · by_cases z1 : a = X + 1
    · subst z1; exact ⟨fun f _ => r1 f, k1, fun z => by omega⟩
    · by_cases z2 : a = X + 2
      · subst z2; exact ⟨fun f z => by omega, k2, fun z => by omega⟩
      · have z := sa a (by omega) z1 z2
        exact ⟨fun f _ => z.2.2.2.1 f, z.1, fun _ => z.2.2.2.2.2.2⟩
  · by_cases z : k < K
    · obtain ⟨p, p1, p2⟩ := w3.2.2 k z
      exact ⟨p, (a1 k z).trans p1, mv_fr fr (gle_refl g) (fun x h1 h2 => e1 x k h1 h2 z) (fun i hi => e2 k i z hi) p2⟩
    · have z : k = K := by omega
      subst z
      exact ⟨q, a2, mv_fr fr (gle_refl g) (fun _ _ _ => rfl) (fun _ _ => rfl) mv⟩
  · have z := (sa X (by omega) (by omega) (by omega)).2.1
    unfold MO
    rw [z, z, z, z, f 28 (by decide), f 29 (by decide), f 30 (by decide), f 31 (by decide)]; exact w5
/-- a new Message -/
def cMs (h : Hp) (t n m T a b : Int32) : Hp := sI (sI (sI (sI (sI (sI (nO h 4) (gq 4 0) (hZ h) t) (gq 4 1) (hZ h) n) (gq 4 2) (hZ h) m) (gq 4 3) (hZ h) T) (gq 4 4) (hZ h) a) (gq 4 5) (hZ h) b
theorem c_ms (h : Hp) (t n m T a b : Int32) : fX4_init (hZ h) t n m T a b (nO h 4) = some ((), cMs h t n m T a b) := by
  have k : hK (nO h 4) (hZ h) = some (4, 0) := by rw [hK_nO, if_pos rfl]
  simp only [fX4_init, pI, hK_sI, k, if_true, bd_some]
  rfl
theorem ch_new {h h' h'' : Hp} (c : Ch h h' (fun a => a = hZ h)) : Ch h h' (fun _ => False) := ⟨c.1, fun a ha _ => c.2 a ha (by omega)⟩
theorem ch_sIn {h h' : Hp} {f b : Nat} {v : Int32} (c : Ch h h' (fun _ => False)) (e : hZ h ≤ b) : Ch h (sI h' f b v) (fun _ => False) := ⟨c.1, fun a ha z => sa_trans (c.2 a ha z) (sa_sI (by omega))⟩
theorem ch_sRn {h h' : Hp} {f b : Nat} {v : Option Nat} (c : Ch h h' (fun _ => False)) (e : hZ h ≤ b) : Ch h (sR h' f b v) (fun _ => False) := ⟨c.1, fun a ha z => sa_trans (c.2 a ha z) (sa_sR (by omega))⟩
theorem ch_tRn {h h' : Hp} {b i : Nat} {v : Option Nat} (c : Ch h h' (fun _ => False)) (e : hZ h ≤ b) : Ch h (tR h' b i v) (fun _ => False) := ⟨c.1, fun a ha z => sa_trans (c.2 a ha z) (sa_tR (by omega))⟩
theorem ch_nOn {h h' : Hp} {k : Nat} (c : Ch h h' (fun _ => False)) : Ch h (nO h' k) (fun _ => False) := ch_trans c ch_nO
theorem ch_nAn {h h' : Hp} {t k : Nat} (c : Ch h h' (fun _ => False)) : Ch h (nA h' t k) (fun _ => False) := ch_trans c ch_nA
theorem ch_ms (h : Hp) (t n m T a b : Int32) : Ch h (cMs h t n m T a b) (fun _ => False) := ch_sIn (ch_sIn (ch_sIn (ch_sIn (ch_sIn (ch_sIn ch_nO (Nat.le_refl _)) (Nat.le_refl _)) (Nat.le_refl _)) (Nat.le_refl _)) (Nat.le_refl _)) (Nat.le_refl _)
/-- a Message is sent: q in h, of type t, is the K-th of s' -/
theorem c_send {X M nn : Nat} {h : Hp} {s s' : MS} {g : GH} {K W q : Nat} (w : RX X M h s g K) (hK' : K < 3000) (c24 : mF s 24 = Int32.ofNat K) (c27 : mF s 27 = Int32.ofNat W) (hW : W ≤ 60) (e : ∀ x i, 1 ≤ x → x ≤ 13 → mA s' x i = mA s x i) (e1 : ∀ x k, 15 ≤ x → x ≤ 22 → k < K → mA s' x k = mA s x k) (e2 : ∀ k i, k < K → i < 4 → crM s' k i = crM s k i) (f : ∀ k, 28 ≤ k ∧ k ≤ 31 → mF s' k = mF s k) (s24 : mF s' 24 = Int32.ofNat (K + 1)) (s27 : (mA s' 15 K = 5 ∧ W < 60 ∧ mF s' 27 = Int32.ofNat (W + 1)) ∨ (mA s' 15 K ≠ 5 ∧ mF s' 27 = mF s 27)) (mv : MV X M h s' g q K) : ∃ h', fX3_send (X + 1) q h = some ((), h') ∧ RX X M h' s' g (K + 1) ∧ CC X nn h h' := by
  have k4 : hK h q = some (4, 0) := mv.1.2.1
  have t4 : gI h 4 0 q = some (mA s' 15 K) := by rw [gI_k k4, mv.1.2.2.1]
  unfold fX3_send
  rw [q_count w, bd_some, q_sent w, bd_some, onR_some, lnA_k (q_kS w), bd_some, c24, if_neg (by rw [io_le (by omega) (by omega)]; omega), t4, bd_some]
  rcases s27 with ⟨u1, u2, u3⟩ | ⟨u1, u2⟩
  · rw [if_pos u1, q_scount w, bd_some, c27, if_pos (by rw [show (60 : Int32) = Int32.ofNat 60 from rfl, io_lt (by omega) (by omega)]; exact u2)]
    unfold fX3_send_30
    rw [t4, bd_some, if_pos u1, q_scount w, bd_some, c27, pI_k (q_k3 w), bd_some]
    unfold fX3_send_48
    have a1 : gR (sI h (gq 3 2) (X + 1) (Int32.ofNat W + 1)) 3 0 (X + 1) = some (some (X + 2)) := (q_sent w : gR h 3 0 (X + 1) = _)
    have a2 : gI (sI h (gq 3 2) (X + 1) (Int32.ofNat W + 1)) 3 1 (X + 1) = some (Int32.ofNat K) := by
      rw [gI_k (h := sI h (gq 3 2) (X + 1) (Int32.ofNat W + 1)) (q_k3 w : hK h (X + 1) = _), hI_sI, if_neg (by simp [gq]), w.2.2.1.1, c24]
    rw [a1, bd_some, onR_some, a2, bd_some, stR_k (h := sI h (gq 3 2) (X + 1) (Int32.ofNat W + 1)) (L := 3000) (q_kS w : hK h (X + 2) = _) hK' (by decide) k4, bd_some]
    have a3 : gI (tR (sI h (gq 3 2) (X + 1) (Int32.ofNat W + 1)) (X + 2) K (some q)) 3 1 (X + 1) = some (Int32.ofNat K) := a2
    rw [a3, bd_some, pI_k (h := tR (sI h (gq 3 2) (X + 1) (Int32.ofNat W + 1)) (X + 2) K (some q)) (q_k3 w : hK h (X + 1) = _), bd_some, io_a1, io_a1]
    refine ⟨_, rfl, rx_mail w ?_ rfl rfl (fun _ => rfl) ?_ ?_ (fun k hk => ?_) ?_ e e1 e2 f mv, ?_⟩
    · exact ch_trans (ch_trans (ch_sI (Or.inl rfl)) (ch_tR (Or.inr rfl))) (ch_sI (Or.inl rfl))
    · rw [hI_sI, if_pos ⟨rfl, rfl⟩, s24]
    · rw [hI_sI, if_neg (by simp [gq]), hI_tR, hI_sI, if_pos ⟨rfl, rfl⟩, u3]
    · rw [aR_sI, aR_tR, if_neg (by omega)]; rfl
    · rw [aR_sI, aR_tR, if_pos ⟨rfl, rfl⟩]
    · exact ch_trans (ch_trans (ch_sI (by unfold PC; omega)) (ch_tR (by unfold PC; omega))) (ch_sI (by unfold PC; omega))
  · rw [if_neg u1]
    unfold fX3_send_30
    rw [t4, bd_some, if_neg u1]
    unfold fX3_send_48
    rw [q_sent w, bd_some, onR_some, q_count w, bd_some, c24, stR_k (L := 3000) (q_kS w) hK' (by decide) k4, bd_some]
    have a3 : gI (tR h (X + 2) K (some q)) 3 1 (X + 1) = some (Int32.ofNat K) := (q_count w).trans (by rw [c24])
    rw [a3, bd_some, pI_k (h := tR h (X + 2) K (some q)) (q_k3 w : hK h (X + 1) = _), bd_some, io_a1]
    refine ⟨_, rfl, rx_mail w ?_ rfl rfl (fun _ => rfl) ?_ ?_ (fun k hk => ?_) ?_ e e1 e2 f mv, ?_⟩
    · exact ch_trans (ch_tR (Or.inr rfl)) (ch_sI (Or.inl rfl))
    · rw [hI_sI, if_pos ⟨rfl, rfl⟩, s24]
    · rw [hI_sI, if_neg (by simp [gq]), hI_tR, w.2.2.1.2.1, u2]
    · rw [aR_sI, aR_tR, if_neg (by omega)]
    · rw [aR_sI, aR_tR, if_pos ⟨rfl, rfl⟩]
    · exact ch_trans (ch_tR (by unfold PC; omega)) (ch_sI (by unfold PC; omega))
theorem cr_lt {s s' : MS} {K : Nat} (e : ∀ i, i < K * 32 → mA s' 23 i = mA s 23 i) (k i : Nat) (hk : k < K) (hi : i < 4) : crM s' k i = crM s k i := by
  unfold crM; funext j
  by_cases z : j < 8
  · rw [if_pos z, if_pos z, e _ (by omega)]
  · rw [if_neg z, if_neg z]
/-- a plain message: an ASK, a VOTE, an ACCEPT, a DENIAL -/
theorem c_plain {X M nn : Nat} {h : Hp} {s : MS} {g : GH} {K W : Nat} {t n m T a b : Int32} (w : RX X M h s g K) (hK' : K < 3000) (c24 : mF s 24 = Int32.ofNat K) (c27 : mF s 27 = Int32.ofNat W) (hW : W ≤ 60) (ht : t ≠ 2 ∧ t ≠ 5) : ∃ h', fX3_send (X + 1) (hZ h) (cMs h t n m T a b) = some ((), h') ∧ RX X M h' (oM K t n m T a b 0 0 s) g (K + 1) ∧ CC X nn h h' := by
  have w' := rx_new0 w (ch_ms h t n m T a b)
  have hz : M + 40 ≤ hZ h := w.1.2.2.2.1
  have x15 : mA (oM K t n m T a b 0 0 s) 15 K = t := by simp [mA_oM]
  have mv : MV X M (cMs h t n m T a b) (oM K t n m T a b 0 0 s) g (hZ h) K := by
    refine ⟨⟨⟨by show hZ h < hZ h + 1; omega, by omega⟩, ?_, ?_, ?_, ?_, ?_, ?_, ?_, ?_⟩, fun u => absurd (x15 ▸ u) ht.1, fun _ => ⟨?_, ?_⟩, fun u => absurd (x15 ▸ u) ht.2⟩
    · simp [cMs, hK_sI, hK_nO]
    all_goals simp [cMs, hI_sI, hR_sI, hR_nO, hI_nO, gq, mA_oM]
  obtain ⟨h', e1, e2, e3⟩ := c_send w' hK' c24 c27 hW (fun x i h1 h2 => mA_oMx _ _ _ _ _ _ _ _ _ _ _ (by omega)) (fun x k h1 h2 hk => by rw [mA_oM, if_neg (by omega)]) (cr_lt (fun i _ => mA_oMx _ _ _ _ _ _ _ _ _ _ _ (by decide))) (fun k hk => by rw [mF_oM, if_neg (by omega)]) (by rw [mF_oM, if_pos rfl]) (Or.inr ⟨by rw [x15]; exact ht.2, by rw [mF_oM, if_neg (by decide)]⟩) mv
  exact ⟨h', e1, e2, cc_trans (cc_none (ch_ms h t n m T a b)) e3⟩
theorem c_reply {X M : Nat} {h : Hp} {s : MS} {g : GH} {K W n q : Nat} {t m v : Int32} (w : RX X M h s g K) (hn : n < 5) (hK' : K < 3000) (c24 : mF s 24 = Int32.ofNat K) (c27 : mF s 27 = Int32.ofNat W) (hW : W ≤ 60) (ht : t ≠ 2 ∧ t ≠ 5) (hq : hK h q = some (4, 0)) (hm : hI h (gq 4 1) q = m) (hz : q < hZ h) : ∃ h', fX5_reply (ndA X n) q t v h = some ((), h') ∧ RX X M h' (oM K t (Int32.ofNat n) m (mA s 2 n) v 0 0 0 s) g (K + 1) ∧ CC X n h h' := by
  have w1 : RX X M (nO h 4) s g K := rx_new0 w ch_nO
  have k4 : hK (nO h 4) q = some (4, 0) := by rw [hK_nO, if_neg (by omega)]; exact hq
  have m4 : gI (nO h 4) 4 1 q = some m := by rw [gI_k k4, hI_nO, if_neg (by omega), hm]
  have k3 : hK (cMs h t (Int32.ofNat n) m (mA s 2 n) v 0) (X + 1) = some (3, 0) := (q_k3 w1 : hK (nO h 4) (X + 1) = _)
  obtain ⟨h', e1, e2, e3⟩ := c_plain (n := Int32.ofNat n) (m := m) (T := mA s 2 n) (a := v) (b := 0) w hK' c24 c27 hW ht
  refine ⟨h', ?_, e2, e3⟩
  unfold fX5_reply nwO
  rw [q_mail w hn, bd_some, onR_some, bd_some, q_num w1 hn, bd_some, m4, bd_some, q_disk w1 hn, bd_some, onR_some, q_term w1 hn, bd_some, c_ms, bd2_some, if_pos k3, e1, bd2_some]
