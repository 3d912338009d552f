/-! ===== the leader sends ===== -/
/-- s' is s but for messages from K on -/
def MX (K : Nat) (s s' : MS) : Prop := (∀ x i, x < 15 ∨ 26 ≤ x → mA s' x i = mA s x i) ∧ (∀ f, f ≠ 24 → f ≠ 27 → mF s' f = mF s f) ∧ (∀ x k, 15 ≤ x ∧ x ≤ 22 ∨ x = 25 → k < K → mA s' x k = mA s x k) ∧ ∀ k i, k < K → i < 4 → crM s' k i = crM s k i
theorem mx_refl (K : Nat) (s : MS) : MX K s s := ⟨fun _ _ _ => rfl, fun _ _ _ => rfl, fun _ _ _ _ => rfl, fun _ _ _ _ => rfl⟩
theorem mx_trans {K K' : Nat} {s s' s'' : MS} (p : MX K s s') (q : MX K' s' s'') (hK : K ≤ K') : MX K s s'' := ⟨fun x i a => (q.1 x i a).trans (p.1 x i a), fun f a b => (q.2.1 f a b).trans (p.2.1 f a b), fun x k a b => (q.2.2.1 x k a (by omega)).trans (p.2.2.1 x k a b), fun k i a b => (q.2.2.2 k i (by omega) b).trans (p.2.2.2 k i a b)⟩
theorem mx_tm {K : Nat} {s s' : MS} (p : MX K s s') (n : Nat) : tmM s' n = tmM s n := by unfold tmM; rw [p.1 2 n (by decide)]
theorem mx_ls {K : Nat} {s s' : MS} (p : MX K s s') (n : Nat) : lsM s' n = lsM s n := by unfold lsM; rw [p.1 5 n (by decide)]
theorem mx_bs {K : Nat} {s s' : MS} (p : MX K s s') (n : Nat) : bsM s' n = bsM s n := by unfold bsM; rw [p.1 4 n (by decide)]
theorem mx_lg {K : Nat} {s s' : MS} (p : MX K s s') (n i : Nat) : lgM s' n i = lgM s n i := by unfold lgM; funext j; rw [p.1 13 _ (by decide)]
theorem mx_cm {K : Nat} {s s' : MS} (p : MX K s s') (n : Nat) : cmM s' n = cmM s n := by unfold cmM; rw [p.1 1 n (by decide), p.1 4 n (by decide), p.1 6 n (by decide)]
theorem mx_oM {K : Nat} {s : MS} {t n m T a b c d : Int32} : MX K s (oM K t n m T a b c d s) := ⟨fun x i h => mA_oMx _ _ _ _ _ _ _ _ _ _ _ (by omega), fun f h1 h2 => by rw [mF_oM, if_neg h1], fun x k h1 h2 => by rw [mA_oM, if_neg (by omega)], cr_lt (fun i _ => mA_oMx _ _ _ _ _ _ _ _ _ _ _ (by decide))⟩
section
variable {n m p b l K W : Nat} {s : MS}
theorem oS_a (h : b ≤ p) : oS n m p b l K W s = oC 23 (K * 4 * 8) 13 ((n * 1201 + (p + 1)) * 8) (min 4 (l - p) * 8) (oM K 2 (Int32.ofNat n) (Int32.ofNat m) (mA s 2 n) (Int32.ofNat p) (mA s 13 ((n * 1201 + p) * 8)) (Int32.ofNat (min 4 (l - p))) (mA s 6 n) s) := if_pos h
theorem oS_b (h : ¬ b ≤ p) (hw : W ≠ 60) : oS n m p b l K W s = uF (oC 24 (W * 1201 * 8) 13 ((n * 1201 + 0) * 8) ((b + 1) * 8) (uA (oM K 5 (Int32.ofNat n) (Int32.ofNat m) (mA s 2 n) (Int32.ofNat b) (mA s 13 ((n * 1201 + b) * 8)) 0 0 s) 25 K (Int32.ofNat W))) 27 (Int32.ofNat (W + 1)) := by unfold oS; rw [if_neg h, if_neg hw]
theorem mx_oSa : MX K s (oC 23 (K * 4 * 8) 13 ((n * 1201 + (p + 1)) * 8) (min 4 (l - p) * 8) (oM K 2 (Int32.ofNat n) (Int32.ofNat m) (mA s 2 n) (Int32.ofNat p) (mA s 13 ((n * 1201 + p) * 8)) (Int32.ofNat (min 4 (l - p))) (mA s 6 n) s)) :=
  ⟨fun x i h => by rw [mA_oCx _ _ _ _ _ _ _ (by omega), mA_oMx _ _ _ _ _ _ _ _ _ _ _ (by omega)], fun f h1 h2 => by rw [mF_oC, mF_oM, if_neg h1], fun x k h1 h2 => by rw [mA_oCx _ _ _ _ _ _ _ (by omega), mA_oM, if_neg (by omega)], cr_lt (fun i hi => by rw [mA_oC, if_neg (by omega), mA_oMx _ _ _ _ _ _ _ _ _ _ _ (by decide)])⟩
theorem mx_oSb : MX K s (uF (oC 24 (W * 1201 * 8) 13 ((n * 1201 + 0) * 8) ((b + 1) * 8) (uA (oM K 5 (Int32.ofNat n) (Int32.ofNat m) (mA s 2 n) (Int32.ofNat b) (mA s 13 ((n * 1201 + b) * 8)) 0 0 s) 25 K (Int32.ofNat W))) 27 (Int32.ofNat (W + 1))) :=
  ⟨fun x i h => by rw [mA_uF, mA_oCx _ _ _ _ _ _ _ (by omega), mA_k _ _ _ _ (by omega), mA_oMx _ _ _ _ _ _ _ _ _ _ _ (by omega)], fun f h1 h2 => by rw [mF_n _ _ h2, mF_oC, mF_uA, mF_oM, if_neg h1], fun x k h1 h2 => by rw [mA_uF, mA_oCx _ _ _ _ _ _ _ (by omega), mA_uA, if_neg (by omega), mA_oM, if_neg (by omega)], cr_lt (fun i hi => by rw [mA_uF, mA_oCx _ _ _ _ _ _ _ (by decide), mA_k _ _ _ _ (by decide), mA_oMx _ _ _ _ _ _ _ _ _ _ _ (by decide)])⟩
theorem cr_oS {i : Nat} {s1 : MS} (e : ∀ i, mA s1 13 i = mA s 13 i) (hi : i < min 4 (l - p)) (hp : p + 1 + i ≤ 1200) : crM (oC 23 (K * 4 * 8) 13 ((n * 1201 + (p + 1)) * 8) (min 4 (l - p) * 8) s1) K i = lgM s n (p + 1 + i) := by
  funext j
  unfold crM lgM
  by_cases z : j < 8
  · rw [if_pos z, if_pos ⟨hp, z⟩, mA_oC, if_pos (by omega), e, show (n * 1201 + (p + 1)) * 8 + ((K * 4 + i) * 8 + j - K * 4 * 8) = (n * 1201 + (p + 1 + i)) * 8 + j by omega]
  · rw [if_neg z, if_neg (fun q => z q.2)]
theorem sr_oS {i : Nat} {s1 : MS} {v : Int32} (e : ∀ i, mA s1 13 i = mA s 13 i) (hi : i ≤ b) (hb : b ≤ 1200) : srM (uF (oC 24 (W * 1201 * 8) 13 ((n * 1201 + 0) * 8) ((b + 1) * 8) s1) 27 v) W i = lgM s n i := by
  funext j
  unfold srM lgM
  by_cases z : i ≤ 1200 ∧ j < 8
  · rw [if_pos z, if_pos z, mA_uF, mA_oC, if_pos (by omega), e, show (n * 1201 + 0) * 8 + ((W * 1201 + i) * 8 + j - W * 1201 * 8) = (n * 1201 + i) * 8 + j by omega]
  · rw [if_neg z, if_neg z]
end
section
variable {X M : Nat} {h : Hp} {s : MS} {g : GH} {B K W n : Nat}
/-- what a leader is -/
theorem mi_lead7 (mi : MI s g B K W) (h2 : mA s 8 n = 2) : gD g (tmM s n) = n + 1 ∧ lsM s n = gW g (tmM s n) ∧ Ag (lgM s n) (gE g (tmM s n)) (lsM s n) ∧ ∀ w, w < 5 → mtM s n w ≤ gA g w (tmM s n) := mi.1.2.2.2.2.2.2.1 n (rl2 h2)
theorem mi_leadn (mi : MI s g B K W) (hn : n < 5) (h2 : mA s 8 n = 2) {m : Nat} (hm : m < 5) : 1 ≤ lsM s n ∧ ∃ p, mA s 11 (5 * n + m) = Int32.ofNat (p + 1) ∧ p ≤ lsM s n ∧ mA s 12 (5 * n + m) = Int32.ofNat (mtM s n m) ∧ mtM s n m ≤ p ∧ (mtM s n m = 0 ∨ p = mtM s n m) := ⟨((mi.2.1 n hn).2.2.2.2.2.2.2.2.2 h2).1, ((mi.2.1 n hn).2.2.2.2.2.2.2.2.2 h2).2 m hm⟩
theorem mi_24 (mi : MI s g B K W) : mF s 24 = Int32.ofNat K := mi.2.2.2.2.2.1
theorem mi_27 (mi : MI s g B K W) : mF s 27 = Int32.ofNat W := mi.2.2.2.2.2.2.1
theorem mi_60 (mi : MI s g B K W) : W ≤ 60 := mi.2.2.2.2.2.2.2.1
theorem mi_tB (mi : MI s g B K W) (n : Nat) : tmM s n ≤ B := mi.2.2.1 n
theorem mi_sendA {m p : Nat} (mi : MI s g B K W) (hn : n < 5) (hm : m < 5) (hnm : n ≠ m) (hu : mA s 1 n = 1) (h2 : mA s 8 n = 2) (hB : B ≤ 1200) (hp : p ≤ lsM s n) : MI (oC 23 (K * 4 * 8) 13 ((n * 1201 + (p + 1)) * 8) (min 4 (lsM s n - p) * 8) (oM K 2 (Int32.ofNat n) (Int32.ofNat m) (mA s 2 n) (Int32.ofNat p) (mA s 13 ((n * 1201 + p) * 8)) (Int32.ofNat (min 4 (lsM s n - p))) (mA s 6 n) s)) g B (K + 1) W := by
  have x := mx_oSa (n := n) (m := m) (p := p) (l := lsM s n) (K := K) (s := s)
  have lsB := mi_ls mi n
  obtain ⟨l1, l2, l3, l4⟩ := mi_lead7 mi h2
  obtain ⟨c1, c2, c3⟩ := mi_cm mi n
  have l5 := (mi_leadn mi hn h2 hm).1
  refine mi_addmsg mi (fun x' i h1 _ _ _ => x.1 x' i (Or.inl h1)) (fun x' i h1 h2 => x.2.2.1 x' i h1 h2) (fun i hi => by rw [mA_oC, if_neg (by omega), mA_oMx _ _ _ _ _ _ _ _ _ _ _ (by decide)]) (fun i hi => by rw [mA_oCx _ _ _ _ _ _ _ (by decide), mA_oMx _ _ _ _ _ _ _ _ _ _ _ (by decide)]) (by rw [mF_oC, mF_oM, if_pos rfl]) (by rw [mF_oC, mF_oM, if_neg (by decide)]; exact mi_27 mi) (Nat.le_refl _) (mi_60 mi) ?_
  have y : ∀ z, z ≠ 23 → mA (oC 23 (K * 4 * 8) 13 ((n * 1201 + (p + 1)) * 8) (min 4 (lsM s n - p) * 8) (oM K 2 (Int32.ofNat n) (Int32.ofNat m) (mA s 2 n) (Int32.ofNat p) (mA s 13 ((n * 1201 + p) * 8)) (Int32.ofNat (min 4 (lsM s n - p))) (mA s 6 n) s)) z K = mA (oM K 2 (Int32.ofNat n) (Int32.ofNat m) (mA s 2 n) (Int32.ofNat p) (mA s 13 ((n * 1201 + p) * 8)) (Int32.ofNat (min 4 (lsM s n - p))) (mA s 6 n) s) z K := fun z hz => mA_oCx _ _ _ _ _ _ _ hz
  refine ⟨2, n, m, tmM s n, ?_, ?_, ?_, ?_, hn, hm, hnm, mi_tB mi n, Or.inr (Or.inr (Or.inl ⟨rfl, p, min 4 (lsM s n - p), cmM s n, l1, ?_, ?_, ?_, ?_, by omega, by omega, by omega, fun i hi => ?_, ?_, by omega⟩))⟩
  · rw [y 15 (by decide)]; simp [mA_oM]
  · rw [y 16 (by decide)]; simp [mA_oM]
  · rw [y 17 (by decide)]; simp [mA_oM]
  · rw [y 18 (by decide), ← mi_2 mi hn]; simp [mA_oM]
  · rw [y 19 (by decide)]; simp [mA_oM]
  · rw [y 20 (by decide), ← l3 p hp, lg_0 (by omega)]; simp [mA_oM]
  · rw [y 21 (by decide)]; simp [mA_oM]
  · rw [y 22 (by decide), ← mi_6 mi hn hu]; simp [mA_oM]
  · rw [cr_oS (s := s) (fun i => mA_oMx _ _ _ _ _ _ _ _ _ _ _ (by decide)) hi (by omega)]; exact l3 _ (by omega)
  · exact cpm_mono (gle_refl g) (Nat.le_refl _) (fun j hj => (l3 j (by omega)).symm) c3
theorem mi_sendB {m : Nat} (mi : MI s g B K W) (hn : n < 5) (hm : m < 5) (hnm : n ≠ m) (h2 : mA s 8 n = 2) (hB : B ≤ 1200) (hb : 1 ≤ bsM s n) (hw : W < 60) : MI (uF (oC 24 (W * 1201 * 8) 13 ((n * 1201 + 0) * 8) ((bsM s n + 1) * 8) (uA (oM K 5 (Int32.ofNat n) (Int32.ofNat m) (mA s 2 n) (Int32.ofNat (bsM s n)) (mA s 13 ((n * 1201 + bsM s n) * 8)) 0 0 s) 25 K (Int32.ofNat W))) 27 (Int32.ofNat (W + 1))) g B (K + 1) (W + 1) := by
  have x := mx_oSb (n := n) (m := m) (b := bsM s n) (K := K) (W := W) (s := s)
  have lsB := mi_ls mi n
  obtain ⟨l1, l2, l3, l4⟩ := mi_lead7 mi h2
  obtain ⟨c1, c2, c3⟩ := mi_cm mi n
  have y : ∀ z i, z ≠ 24 → z ≠ 25 → mA (uF (oC 24 (W * 1201 * 8) 13 ((n * 1201 + 0) * 8) ((bsM s n + 1) * 8) (uA (oM K 5 (Int32.ofNat n) (Int32.ofNat m) (mA s 2 n) (Int32.ofNat (bsM s n)) (mA s 13 ((n * 1201 + bsM s n) * 8)) 0 0 s) 25 K (Int32.ofNat W))) 27 (Int32.ofNat (W + 1))) z i = mA (oM K 5 (Int32.ofNat n) (Int32.ofNat m) (mA s 2 n) (Int32.ofNat (bsM s n)) (mA s 13 ((n * 1201 + bsM s n) * 8)) 0 0 s) z i := fun z i hz hz' => by rw [mA_uF, mA_oCx _ _ _ _ _ _ _ hz, mA_k _ _ _ _ hz']
  refine mi_addmsg mi (fun x' i h1 _ _ _ => x.1 x' i (Or.inl h1)) (fun x' i h1 h2 => x.2.2.1 x' i h1 h2) (fun i hi => by rw [y 23 i (by decide) (by decide), mA_oMx _ _ _ _ _ _ _ _ _ _ _ (by decide)]) (fun i hi => by rw [mA_uF, mA_oC, if_neg (by omega), mA_k _ _ _ _ (by decide), mA_oMx _ _ _ _ _ _ _ _ _ _ _ (by decide)]) (by rw [mF_n _ _ (by decide), mF_oC, mF_uA, mF_oM, if_pos rfl]) (mF_h _ _ _) (by omega) (by omega) ?_
  refine ⟨5, n, m, tmM s n, ?_, ?_, ?_, ?_, hn, hm, hnm, mi_tB mi n, Or.inr (Or.inr (Or.inr (Or.inr (Or.inr ⟨rfl, bsM s n, W, l1, ?_, ?_, ?_, by omega, hb, by omega, fun i hi => ?_, ?_⟩))))⟩
  · rw [y 15 K (by decide) (by decide)]; simp [mA_oM]
  · rw [y 16 K (by decide) (by decide)]; simp [mA_oM]
  · rw [y 17 K (by decide) (by decide)]; simp [mA_oM]
  · rw [y 18 K (by decide) (by decide), ← mi_2 mi hn]; simp [mA_oM]
  · rw [y 19 K (by decide) (by decide)]; simp [mA_oM]
  · rw [y 20 K (by decide) (by decide), ← l3 _ (by omega), lg_0 (by omega)]; simp [mA_oM]
  · rw [mA_uF, mA_oCx _ _ _ _ _ _ _ (by decide), mA_h]
  · rw [sr_oS (s := s) (fun i => by rw [mA_k _ _ _ _ (by decide), mA_oMx _ _ _ _ _ _ _ _ _ _ _ (by decide)]) hi (by omega)]; exact l3 _ (by omega)
  · exact cpm_mono (gle_refl g) (Nat.le_refl _) (fun j hj => (l3 j (by omega)).symm) (cpt_le teM c3 c2)
theorem c_behind23 {p c z : Nat} (w : RX X M h s g K) (mi : MI s g B K W) (hn : n < 5) (hB : B ≤ 1200) (hb : bsM s n ≤ p) (hc : p + c ≤ lsM s n) (hz : hZ h ≤ z) : ∀ (d i f : Nat) (h1 : Hp), i + d = c → d < f → Ch h h1 (fun _ => False) → hK h1 z = some (14, c) → (∀ j, j < i → ∃ e, aR h1 z j = some e ∧ EV X M h e (lgM s n (p + 1 + j))) → ∃ h2, fX1_entriesBehind_23 f (ndA X n + 13) (Int32.ofNat p) (Int32.ofNat c) z (Int32.ofNat i) h1 = some (some z, h2) ∧ Ch h h2 (fun _ => False) ∧ hZ h2 = hZ h1 ∧ (∀ a, a ≠ z → SA h1 h2 a) ∧ hK h2 z = some (14, c) ∧ ∀ j, j < c → ∃ e, aR h2 z j = some e ∧ EV X M h e (lgM s n (p + 1 + j)) := by
  have lsB := mi_ls mi n
  intro d
  induction d with
  | zero =>
    intro i f h1 h0 hf ch hk ha
    obtain ⟨f, rfl⟩ : ∃ g, f = g + 1 := ⟨f - 1, by omega⟩
    have e : i = c := by omega
    subst e
    refine ⟨h1, ?_, ch, rfl, fun a _ => sa_refl h1 a, hk, ha⟩
    show fX1_entriesBehind_23_body _ _ _ _ _ _ _ = _
    unfold fX1_entriesBehind_23_body
    rw [if_pos (Int32.le_refl _)]
  | succ d ih =>
    intro i f h1 h0 hf ch hk ha
    obtain ⟨f, rfl⟩ : ∃ g, f = g + 1 := ⟨f - 1, by omega⟩
    have w1 := rx_new0 w ch
    have idx : (Int32.ofNat p + 1) + Int32.ofNat i = Int32.ofNat (p + 1 + i) := by rw [io_a1, io_ad]
    obtain ⟨e, e1, e2⟩ := (rx_n w hn).2.2.1.2 (p + 1 + i) (by omega) (by omega)
    have hz' := w.1.2.2.2.1
    have hM := rx_M w
    have s14 := ch.2 (ndA X n + 14) (by unfold ndA; omega) id
    have b4 := mi_4 mi hn
    have b5 := mi_5 mi hn
    have e3 : fX1_entryAt (ndA X n + 13) (Int32.ofNat p + 1 + Int32.ofNat i) h1 = some (some e, h1) := by
      rw [idx, c_entryAt w1 mi hn hB, b4, b5, if_neg (by rw [io_le (by omega) (by omega), io_lt (by omega) (by omega)]; omega), io_cl (by omega), s14.2.2.2.2.2.2, e1]
    have ek : hK h1 e = some (2, 0) := (ch.2 e e2.1.1 id).1.trans e2.2.1
    obtain ⟨h2, g1, g2, g3, g4, g5, g6⟩ := ih (i + 1) f (tR h1 z i (some e)) (by omega) (by omega) (ch_tRn ch hz) hk (fun j hj => by
      by_cases zj : j = i
      · subst zj; exact ⟨e, by rw [aR_tR, if_pos ⟨rfl, rfl⟩], e2⟩
      · rw [aR_tR, if_neg (by omega)]; exact ha j (by omega))
    refine ⟨h2, ?_, g2, g3, fun a ha => sa_trans (sa_tR ha) (g4 a ha), g5, g6⟩
    show fX1_entriesBehind_23_body _ _ _ _ _ _ _ = _
    unfold fX1_entriesBehind_23_body
    rw [if_neg (by rw [io_le (by omega) (by omega)]; omega), if_pos (q_k1 w1 hn), e3, bd2_some, onR_some, stR_k hk (by omega) (by omega) ek, bd_some, io_a1]
    exact g1
theorem c_behind {h0 : Hp} {p : Nat} (w0 : RX X M h0 s g K) (ch : Ch h0 h (fun _ => False)) (mi : MI s g B K W) (hn : n < 5) (hB : B ≤ 1200) (hb : bsM s n ≤ p) (hp : p ≤ lsM s n) : ∃ h2, fX1_entriesBehind (ndA X n + 13) (Int32.ofNat p) h = some (some (hZ h), h2) ∧ Ch h h2 (fun _ => False) ∧ hZ h2 = hZ h + 1 ∧ hK h2 (hZ h) = some (14, min 4 (lsM s n - p)) ∧ ∀ j, j < min 4 (lsM s n - p) → ∃ e, aR h2 (hZ h) j = some e ∧ EV X M h0 e (lgM s n (p + 1 + j)) := by
  have lsB := mi_ls mi n
  have w := rx_new0 w0 ch
  have kz : hK (nA h 14 (min 4 (lsM s n - p))) (hZ h) = some (14, min 4 (lsM s n - p)) := if_pos rfl
  obtain ⟨h2, g1, g2, g3, g4, g5, g6⟩ := c_behind23 (p := p) (c := min 4 (lsM s n - p)) (z := hZ h) w0 mi hn hB hb (by omega) ch.1 (min 4 (lsM s n - p)) 0 LF (nA h 14 (min 4 (lsM s n - p))) (by omega) (LF_lt (by omega)) (ch_nAn ch) kz (fun j hj => by omega)
  refine ⟨h2, ?_, ⟨by rw [g3]; exact Nat.le_succ _, fun a ha _ => sa_trans (sa_nA (by omega)) (g4 a (by omega))⟩, g3, g5, g6⟩
  have em : mx (0 : Int32) (mn (4 : Int32) (Int32.ofNat (lsM s n) - Int32.ofNat p)) = Int32.ofNat (min 4 (lsM s n - p)) := by
    rw [io_sb hp, show (4 : Int32) = Int32.ofNat 4 from rfl, io_mn (by omega) (by omega), show (0 : Int32) = Int32.ofNat 0 from rfl, io_mx (by omega) (by omega)]
    congr 1
  unfold fX1_entriesBehind
  rw [q_last w hn, bd_some, mi_5 mi hn, em]
  unfold mkA
  rw [if_pos (by rw [io_nn (by omega), io_cl (by omega)]; exact ⟨id, by omega⟩), io_cl (by omega), bd_some, show (0 : Int32) = Int32.ofNat 0 from rfl]
  exact g1
theorem mv_A {m p : Nat} {h2 h3 : Hp} (hz : M + 40 ≤ hZ h) (hp : p ≤ lsM s n) (l12 : lsM s n ≤ 1200) (c4 : Ch h h3 (fun _ => False)) (z2 : hZ h + 1 < hZ h3) (k4 : hK h3 (hZ h) = some (4, 0)) (i0 : hI h3 (gq 4 0) (hZ h) = 2) (i1 : hI h3 (gq 4 1) (hZ h) = Int32.ofNat n) (i2 : hI h3 (gq 4 2) (hZ h) = Int32.ofNat m) (i3 : hI h3 (gq 4 3) (hZ h) = mA s 2 n) (i4 : hI h3 (gq 4 4) (hZ h) = Int32.ofNat p) (i5 : hI h3 (gq 4 5) (hZ h) = lgM s n p 0) (i7 : hI h3 (gq 4 7) (hZ h) = mA s 6 n) (r6 : hR h3 (gq 4 6) (hZ h) = some (hZ h + 1)) (g4 : hK h3 (hZ h + 1) = some (14, min 4 (lsM s n - p))) (g5 : ∀ j, j < min 4 (lsM s n - p) → ∃ e, aR h3 (hZ h + 1) j = some e ∧ EV X M h e (lgM s n (p + 1 + j))) : MV X M h3 (oC 23 (K * 4 * 8) 13 ((n * 1201 + (p + 1)) * 8) (min 4 (lsM s n - p) * 8) (oM K 2 (Int32.ofNat n) (Int32.ofNat m) (mA s 2 n) (Int32.ofNat p) (mA s 13 ((n * 1201 + p) * 8)) (Int32.ofNat (min 4 (lsM s n - p))) (mA s 6 n) s)) g (hZ h) K := by
  have y' : ∀ z, z ≠ 23 → mA (oC 23 (K * 4 * 8) 13 ((n * 1201 + (p + 1)) * 8) (min 4 (lsM s n - p) * 8) (oM K 2 (Int32.ofNat n) (Int32.ofNat m) (mA s 2 n) (Int32.ofNat p) (mA s 13 ((n * 1201 + p) * 8)) (Int32.ofNat (min 4 (lsM s n - p))) (mA s 6 n) s)) z K = mA (oM K 2 (Int32.ofNat n) (Int32.ofNat m) (mA s 2 n) (Int32.ofNat p) (mA s 13 ((n * 1201 + p) * 8)) (Int32.ofNat (min 4 (lsM s n - p))) (mA s 6 n) s) z K := fun z hz => mA_oCx _ _ _ _ _ _ _ hz
  have x15 : mA (oC 23 (K * 4 * 8) 13 ((n * 1201 + (p + 1)) * 8) (min 4 (lsM s n - p) * 8) (oM K 2 (Int32.ofNat n) (Int32.ofNat m) (mA s 2 n) (Int32.ofNat p) (mA s 13 ((n * 1201 + p) * 8)) (Int32.ofNat (min 4 (lsM s n - p))) (mA s 6 n) s)) 15 K = 2 := by rw [y' 15 (by decide)]; simp [mA_oM]
  have frx : Fr X M h h3 := fr_ch c4 (fun _ q => q.elim)
  refine ⟨⟨⟨by omega, by omega⟩, k4, ?_, ?_, ?_, ?_, ?_, ?_, ?_⟩, fun _ => ⟨hZ h + 1, min 4 (lsM s n - p), r6, ⟨by omega, by omega⟩, g4, ?_, by omega, fun i hi => ?_⟩, fun u => absurd x15 u, fun u => ?_⟩
  · rw [x15]; exact i0
  · rw [y' 16 (by decide), i1]; simp [mA_oM]
  · rw [y' 17 (by decide), i2]; simp [mA_oM]
  · rw [y' 18 (by decide), i3]; simp [mA_oM]
  · rw [y' 19 (by decide), i4]; simp [mA_oM]
  · rw [y' 20 (by decide), i5, lg_0 (by omega)]; simp [mA_oM]
  · rw [y' 22 (by decide), i7]; simp [mA_oM]
  · rw [y' 21 (by decide)]; simp [mA_oM]
  · obtain ⟨e, f1, f2⟩ := g5 i hi
    refine ⟨e, f1, ?_⟩
    rw [cr_oS (s := s) (fun i => mA_oMx _ _ _ _ _ _ _ _ _ _ _ (by decide)) hi (by omega)]
    exact ev_fr frx f2
  · rw [x15] at u; exact absurd u (by decide)
theorem mv_B {m q T : Nat} {y : Nat → Nat → Int32} {h3 : Hp} (hz : M + 40 ≤ hZ h) (l12 : bsM s n ≤ 1200) (c4 : Ch h h3 (fun _ => False)) (z2 : hZ h < hZ h3) (b4 : mA s 4 n = Int32.ofNat (bsM s n)) (e0 : y 0 = e0M) (e2 : CPM g y T (bsM s n)) (ey : y (bsM s n) = lgM s n (bsM s n)) (e3 : SV X M h q (mA s 4 n) (y (bsM s n) 0) (rp y (bsM s n))) (k4 : hK h3 (hZ h) = some (4, 0)) (i0 : hI h3 (gq 4 0) (hZ h) = 5) (i1 : hI h3 (gq 4 1) (hZ h) = Int32.ofNat n) (i2 : hI h3 (gq 4 2) (hZ h) = Int32.ofNat m) (i3 : hI h3 (gq 4 3) (hZ h) = mA s 2 n) (i4 : hI h3 (gq 4 4) (hZ h) = mA s 4 n) (i5 : hI h3 (gq 4 5) (hZ h) = lgM s n (bsM s n) 0) (i7 : hI h3 (gq 4 7) (hZ h) = 0) (r6 : hR h3 (gq 4 6) (hZ h) = none) (r8 : hR h3 (gq 4 8) (hZ h) = some q) : MV X M h3 (uF (oC 24 (W * 1201 * 8) 13 ((n * 1201 + 0) * 8) ((bsM s n + 1) * 8) (uA (oM K 5 (Int32.ofNat n) (Int32.ofNat m) (mA s 2 n) (Int32.ofNat (bsM s n)) (mA s 13 ((n * 1201 + bsM s n) * 8)) 0 0 s) 25 K (Int32.ofNat W))) 27 (Int32.ofNat (W + 1))) g (hZ h) K := by
  have y' : ∀ z i, z ≠ 24 → z ≠ 25 → mA (uF (oC 24 (W * 1201 * 8) 13 ((n * 1201 + 0) * 8) ((bsM s n + 1) * 8) (uA (oM K 5 (Int32.ofNat n) (Int32.ofNat m) (mA s 2 n) (Int32.ofNat (bsM s n)) (mA s 13 ((n * 1201 + bsM s n) * 8)) 0 0 s) 25 K (Int32.ofNat W))) 27 (Int32.ofNat (W + 1))) z i = mA (oM K 5 (Int32.ofNat n) (Int32.ofNat m) (mA s 2 n) (Int32.ofNat (bsM s n)) (mA s 13 ((n * 1201 + bsM s n) * 8)) 0 0 s) z i := fun z i hz hz' => by rw [mA_uF, mA_oCx _ _ _ _ _ _ _ hz, mA_k _ _ _ _ hz']
  have x15 : mA (uF (oC 24 (W * 1201 * 8) 13 ((n * 1201 + 0) * 8) ((bsM s n + 1) * 8) (uA (oM K 5 (Int32.ofNat n) (Int32.ofNat m) (mA s 2 n) (Int32.ofNat (bsM s n)) (mA s 13 ((n * 1201 + bsM s n) * 8)) 0 0 s) 25 K (Int32.ofNat W))) 27 (Int32.ofNat (W + 1))) 15 K = 5 := by rw [y' 15 K (by decide) (by decide)]; simp [mA_oM]
  have x19 : mA (uF (oC 24 (W * 1201 * 8) 13 ((n * 1201 + 0) * 8) ((bsM s n + 1) * 8) (uA (oM K 5 (Int32.ofNat n) (Int32.ofNat m) (mA s 2 n) (Int32.ofNat (bsM s n)) (mA s 13 ((n * 1201 + bsM s n) * 8)) 0 0 s) 25 K (Int32.ofNat W))) 27 (Int32.ofNat (W + 1))) 19 K = Int32.ofNat (bsM s n) := by rw [y' 19 K (by decide) (by decide)]; simp [mA_oM]
  have x20 : mA (uF (oC 24 (W * 1201 * 8) 13 ((n * 1201 + 0) * 8) ((bsM s n + 1) * 8) (uA (oM K 5 (Int32.ofNat n) (Int32.ofNat m) (mA s 2 n) (Int32.ofNat (bsM s n)) (mA s 13 ((n * 1201 + bsM s n) * 8)) 0 0 s) 25 K (Int32.ofNat W))) 27 (Int32.ofNat (W + 1))) 20 K = lgM s n (bsM s n) 0 := by rw [y' 20 K (by decide) (by decide), lg_0 l12]; simp [mA_oM]
  have frx : Fr X M h h3 := fr_ch c4 (fun _ q => q.elim)
  have cl : (Int32.ofNat (bsM s n)).toNatClampNeg = bsM s n := io_cl (by omega)
  refine ⟨⟨⟨by omega, by omega⟩, k4, ?_, ?_, ?_, ?_, ?_, ?_, ?_⟩, fun u => ?_, fun _ => ⟨r6, ?_⟩, fun _ => ⟨q, y, T, r8, e0, ?_, ?_, ?_⟩⟩
  · rw [x15]; exact i0
  · rw [y' 16 K (by decide) (by decide), i1]; simp [mA_oM]
  · rw [y' 17 K (by decide) (by decide), i2]; simp [mA_oM]
  · rw [y' 18 K (by decide) (by decide), i3]; simp [mA_oM]
  · rw [x19, i4, b4]
  · rw [x20, i5]
  · rw [y' 22 K (by decide) (by decide), i7]; simp [mA_oM]
  · rw [x15] at u; exact absurd u (by decide)
  · rw [y' 21 K (by decide) (by decide)]; simp [mA_oM]
  · rw [x19, cl]; exact e2
  · rw [x19, x20, cl, ey]
  · rw [x19, x20, cl, ← b4, ← ey]; exact sv_fr frx e3
theorem c_sendA {m p : Nat} (w : RX X M h s g K) (mi : MI s g B K W) (hn : n < 5) (hm : m < 5) (hB : B ≤ 1200) (hK' : K < 3000) (hu : mA s 1 n = 1) (hx : mA s 11 (5 * n + m) = Int32.ofNat (p + 1)) (hp : p ≤ lsM s n) (z : bsM s n ≤ p) : ∃ h', fX5_sendTo (ndA X n) (Int32.ofNat m) h = some ((), h') ∧ CC X n h h' ∧ RX X M h' (oC 23 (K * 4 * 8) 13 ((n * 1201 + (p + 1)) * 8) (min 4 (lsM s n - p) * 8) (oM K 2 (Int32.ofNat n) (Int32.ofNat m) (mA s 2 n) (Int32.ofNat p) (mA s 13 ((n * 1201 + p) * 8)) (Int32.ofNat (min 4 (lsM s n - p))) (mA s 6 n) s)) g (K + 1) := by
  have lsB := mi_ls mi n
  have hz : M + 40 ≤ hZ h := w.1.2.2.2.1
  obtain ⟨q, y, T, e1, e0, e2, e3⟩ := q_snap w hn
  have w1 : RX X M (nO h 4) s g K := rx_new0 w ch_nO
  have b4 := mi_4 mi hn
  have cms := ch_ms h 2 (Int32.ofNat n) (Int32.ofNat m) (mA s 2 n) (Int32.ofNat p) (lgM s n p 0)
  have w2 := rx_new0 w cms
  obtain ⟨h2, g1, g2, g3, g4, g5⟩ := c_behind w cms mi hn hB z hp
  have zz : hZ (cMs h 2 (Int32.ofNat n) (Int32.ofNat m) (mA s 2 n) (Int32.ofNat p) (lgM s n p 0)) = hZ h + 1 := rfl
  rw [zz] at g1 g3 g4 g5
  have c2 : Ch h h2 (fun _ => False) := ch_trans cms g2
  have sz := g2.2 (hZ h) (by rw [zz]; omega) id
  have k4 : hK h2 (hZ h) = some (4, 0) := sz.1.trans (by simp [cMs, hK_sI, hK_nO])
  have i4 := sz.2.1
  have c3 : Ch h (sR h2 (gq 4 6) (hZ h) (some (hZ h + 1))) (fun _ => False) := ch_sRn c2 (Nat.le_refl _)
  have w4 := rx_new0 w c3
  have c4 : Ch h (sI (sR h2 (gq 4 6) (hZ h) (some (hZ h + 1))) (gq 4 7) (hZ h) (mA s 6 n)) (fun _ => False) := ch_sIn c3 (Nat.le_refl _)
  have w5 := rx_new0 w c4
  have mv : MV X M (sI (sR h2 (gq 4 6) (hZ h) (some (hZ h + 1))) (gq 4 7) (hZ h) (mA s 6 n)) (oC 23 (K * 4 * 8) 13 ((n * 1201 + (p + 1)) * 8) (min 4 (lsM s n - p) * 8) (oM K 2 (Int32.ofNat n) (Int32.ofNat m) (mA s 2 n) (Int32.ofNat p) (mA s 13 ((n * 1201 + p) * 8)) (Int32.ofNat (min 4 (lsM s n - p))) (mA s 6 n) s)) g (hZ h) K := by
    refine mv_A (h2 := h2) hz hp (by omega) c4 ?_ k4 ?_ ?_ ?_ ?_ ?_ ?_ ?_ ?_ g4 g5
    · show hZ h + 1 < hZ h2; omega
    · rw [hI_sI, if_neg (by simp [gq]), hI_sR, i4]; simp [cMs, hI_sI, gq]
    · rw [hI_sI, if_neg (by simp [gq]), hI_sR, i4]; simp [cMs, hI_sI, gq]
    · rw [hI_sI, if_neg (by simp [gq]), hI_sR, i4]; simp [cMs, hI_sI, gq]
    · rw [hI_sI, if_neg (by simp [gq]), hI_sR, i4]; simp [cMs, hI_sI, gq]
    · rw [hI_sI, if_neg (by simp [gq]), hI_sR, i4]; simp [cMs, hI_sI, gq]
    · rw [hI_sI, if_neg (by simp [gq]), hI_sR, i4]; simp [cMs, hI_sI, gq]
    · rw [hI_sI, if_pos ⟨rfl, rfl⟩]
    · rw [hR_sI, hR_sR, if_pos ⟨rfl, rfl⟩]
  have xs := mx_oSa (n := n) (m := m) (p := p) (l := lsM s n) (K := K) (s := s)
  have x15 : mA (oC 23 (K * 4 * 8) 13 ((n * 1201 + (p + 1)) * 8) (min 4 (lsM s n - p) * 8) (oM K 2 (Int32.ofNat n) (Int32.ofNat m) (mA s 2 n) (Int32.ofNat p) (mA s 13 ((n * 1201 + p) * 8)) (Int32.ofNat (min 4 (lsM s n - p))) (mA s 6 n) s)) 15 K ≠ 5 := by rw [mA_oCx _ _ _ _ _ _ _ (by decide)]; simp [mA_oM]
  obtain ⟨h', f1, f2, f3⟩ := c_send w5 hK' (mi_24 mi) (mi_27 mi) (mi_60 mi) (fun x' i h1 h2 => xs.1 x' i (Or.inl (by omega))) (fun x' k h1 h2 hk => xs.2.2.1 x' k (by omega) hk) xs.2.2.2 (fun k hk => xs.2.1 k (by omega) (by omega)) (by rw [mF_oC, mF_oM, if_pos rfl]) (Or.inr ⟨x15, by rw [mF_oC, mF_oM, if_neg (by decide)]⟩) mv
  refine ⟨h', ?_, cc_trans (cc_none c4) f3, f2⟩
  unfold fX5_sendTo nwO
  rw [q_nextR w hn, bd_some, onR_some, q_next w hn hm, bd_some, q_disk w hn, bd_some, onR_some, e1, bd_some, onR_some, sv_b e3, bd_some, hx, io_s1 (by omega), Nat.add_sub_cancel, b4, if_pos (by rw [io_le (by omega) (by omega)]; exact z), bd_some, q_num w1 hn, bd_some, q_disk w1 hn, bd_some, onR_some, q_term w1 hn, bd_some, bd_some, onR_some, if_pos (q_k1 w1 hn), c_termN w1 mi hn hB (by omega), if_pos ⟨z, hp⟩, bd2_some, c_ms, bd2_some, q_disk w2 hn, bd_some, onR_some, if_pos (q_k1 w2 hn), g1, bd2_some, onR_some, pR_k k4, bd_some, q_comU w4 hn hu, bd_some, pI_k (h := sR h2 (gq 4 6) (hZ h) (some (hZ h + 1))) k4, bd_some, q_mail w5 hn, bd_some, onR_some, if_pos (q_k3 w5), f1, bd2_some]
end
