/-! ===== the class's single acts ===== -/
theorem hI_sI (h : Hp) (f b : Nat) (v : Int32) (g c : Nat) : hI (sI h f b v) g c = if g = f ∧ c = b then v else hI h g c := rfl
theorem hI_sR (h : Hp) (f b : Nat) (v : Option Nat) (g c : Nat) : hI (sR h f b v) g c = hI h g c := rfl
theorem hI_tI (h : Hp) (b i : Nat) (v : Int32) (g c : Nat) : hI (tI h b i v) g c = hI h g c := rfl
theorem hI_tR (h : Hp) (b i : Nat) (v : Option Nat) (g c : Nat) : hI (tR h b i v) g c = hI h g c := rfl
theorem hK_sI (h : Hp) (f b : Nat) (v : Int32) (c : Nat) : hK (sI h f b v) c = hK h c := rfl
theorem hK_sR (h : Hp) (f b : Nat) (v : Option Nat) (c : Nat) : hK (sR h f b v) c = hK h c := rfl
theorem hK_tI (h : Hp) (b i : Nat) (v : Int32) (c : Nat) : hK (tI h b i v) c = hK h c := rfl
theorem hK_tR (h : Hp) (b i : Nat) (v : Option Nat) (c : Nat) : hK (tR h b i v) c = hK h c := rfl
theorem hR_sI (h : Hp) (f b : Nat) (v : Int32) (g c : Nat) : hR (sI h f b v) g c = hR h g c := rfl
theorem hR_sR (h : Hp) (f b : Nat) (v : Option Nat) (g c : Nat) : hR (sR h f b v) g c = if g = f ∧ c = b then v else hR h g c := rfl
theorem hR_tI (h : Hp) (b i : Nat) (v : Int32) (g c : Nat) : hR (tI h b i v) g c = hR h g c := rfl
theorem hR_tR (h : Hp) (b i : Nat) (v : Option Nat) (g c : Nat) : hR (tR h b i v) g c = hR h g c := rfl
theorem aI_sI (h : Hp) (f b : Nat) (v : Int32) (a i : Nat) : aI (sI h f b v) a i = aI h a i := rfl
theorem aI_sR (h : Hp) (f b : Nat) (v : Option Nat) (a i : Nat) : aI (sR h f b v) a i = aI h a i := rfl
theorem aI_tI (h : Hp) (b j : Nat) (v : Int32) (a i : Nat) : aI (tI h b j v) a i = if a = b ∧ i = j then v else aI h a i := rfl
theorem aI_tR (h : Hp) (b j : Nat) (v : Option Nat) (a i : Nat) : aI (tR h b j v) a i = aI h a i := rfl
theorem aR_sI (h : Hp) (f b : Nat) (v : Int32) (a i : Nat) : aR (sI h f b v) a i = aR h a i := rfl
theorem aR_sR (h : Hp) (f b : Nat) (v : Option Nat) (a i : Nat) : aR (sR h f b v) a i = aR h a i := rfl
theorem aR_tI (h : Hp) (b j : Nat) (v : Int32) (a i : Nat) : aR (tI h b j v) a i = aR h a i := rfl
theorem aR_tR (h : Hp) (b j : Nat) (v : Option Nat) (a i : Nat) : aR (tR h b j v) a i = if a = b ∧ i = j then v else aR h a i := rfl
theorem hK_nO (h : Hp) (c a : Nat) : hK (nO h c) a = if a = hZ h then some (c, 0) else hK h a := rfl
theorem hI_nO (h : Hp) (c f a : Nat) : hI (nO h c) f a = if a = hZ h then 0 else hI h f a := rfl
theorem hR_nO (h : Hp) (c f a : Nat) : hR (nO h c) f a = if a = hZ h then none else hR h f a := rfl
theorem aR_nO (h : Hp) (c a i : Nat) : aR (nO h c) a i = aR h a i := rfl
theorem hZ_nO (h : Hp) (c : Nat) : hZ (nO h c) = hZ h + 1 := rfl
theorem hZ_sI (h : Hp) (f b : Nat) (v : Int32) : hZ (sI h f b v) = hZ h := rfl
theorem hZ_sR (h : Hp) (f b : Nat) (v : Option Nat) : hZ (sR h f b v) = hZ h := rfl
theorem hZ_tI (h : Hp) (b i : Nat) (v : Int32) : hZ (tI h b i v) = hZ h := rfl
theorem hZ_tR (h : Hp) (b i : Nat) (v : Option Nat) : hZ (tR h b i v) = hZ h := rfl
/-- s' is s but for node n -/
def NX (n : Nat) (s s' : MS) : Prop := (∀ v x, v ≠ n → 1 ≤ x → x ≤ 10 → mA s' x v = mA s x v) ∧ (∀ v x m, v ≠ n → x = 11 ∨ x = 12 → m < 5 → mA s' x (5 * v + m) = mA s x (5 * v + m)) ∧ (∀ v i, v ≠ n → lgM s' v i = lgM s v i) ∧ (∀ x i, 15 ≤ x → x ≤ 25 → mA s' x i = mA s x i) ∧ ∀ f, mF s' f = mF s f
theorem nx_refl (n : Nat) (s : MS) : NX n s s := ⟨fun _ _ _ _ _ => rfl, fun _ _ _ _ _ _ => rfl, fun _ _ _ => rfl, fun _ _ _ _ => rfl, fun _ => rfl⟩
theorem nx_trans {n : Nat} {s s' s'' : MS} (p : NX n s s') (q : NX n s' s'') : NX n s s'' := ⟨fun v x a b c => (q.1 v x a b c).trans (p.1 v x a b c), fun v x m a b c => (q.2.1 v x m a b c).trans (p.2.1 v x m a b c), fun v i a => (q.2.2.1 v i a).trans (p.2.2.1 v i a), fun x i a b => (q.2.2.2.1 x i a b).trans (p.2.2.2.1 x i a b), fun f => (q.2.2.2.2 f).trans (p.2.2.2.2 f)⟩
theorem nx_uA {n k : Nat} {s : MS} {v : Int32} (h : (1 ≤ k ∧ k ≤ 10) ∨ k = 14) : NX n s (uA s k n v) := ⟨fun _ _ a _ _ => mA_i _ _ _ _ a, fun _ x _ _ b _ => mA_k _ _ _ _ (by omega), fun _ _ _ => by unfold lgM; funext j; rw [mA_k _ _ _ _ (by omega)], fun x _ a _ => mA_k _ _ _ _ (by omega), fun _ => rfl⟩
theorem nx_uX {n m k : Nat} {s : MS} {v : Int32} (h : k = 11 ∨ k = 12) (hm : m < 5) : NX n s (uA s k (5 * n + m) v) := ⟨fun _ x _ _ _ => mA_k _ _ _ _ (by omega), fun w x q a b c => by rw [mA_uA, if_neg (by omega)], fun _ _ _ => by unfold lgM; funext j; rw [mA_k _ _ _ _ (by omega)], fun x _ a _ => mA_k _ _ _ _ (by omega), fun _ => rfl⟩
theorem nx_oE {n idx : Nat} {r : Nat → Int32} {s : MS} (hi : idx ≤ 1200) : NX n s (oE n idx r s) := ⟨fun _ x a _ _ => mA_oEx _ _ _ (by omega) (by omega), fun _ x _ _ b _ => mA_oEx _ _ _ (by omega) (by omega), fun v i a => by rw [lg_oE hi, up2_n1 _ _ _ a], fun x _ a _ => mA_oEx _ _ _ (by omega) (by omega), fun _ => rfl⟩
theorem nx_oP {n : Nat} {s : MS} : NX n s (oP n s) := by
  unfold oP; split
  · exact nx_refl n s
  · exact nx_uA (by decide)
theorem nx_oD {n : Nat} {s : MS} : NX n s (oD n s) := nx_trans (nx_trans (nx_uA (by decide)) (nx_uA (by decide))) (nx_uA (by decide))
def PNd (X n a : Nat) : Prop := ndA X n ≤ a ∧ a ≤ ndA X n + 14
theorem pn_fr {X M n : Nat} {h h' : Hp} (c : Ch h h' (PNd X n)) (hn : n < 5) (hM : M = X + 92) : Fr X M h h' := fr_ch c (fun a q => by unfold PNd ndA at q; omega)
theorem rx_node {X M : Nat} {h h' : Hp} {s s' : MS} {g g' : GH} {K n : Nat} (w : RX X M h s g K) (hn : n < 5) (c : Ch h h' (PNd X n)) (gl : GLe g g') (gd : ∀ T, gD g' T = gD g T) (nx : NX n s s') (nd : ND X M h' s' g' n) : RX X M h' s' g' K := by
  obtain ⟨w1, w2, w3, w4, w5⟩ := w
  have hM : M = X + 92 := w1.2.2.2.2
  have hZ : M + 40 ≤ hZ h := w1.2.2.2.1
  have fr := pn_fr (M := M) c hn hM
  have sa : ∀ a, a < X + 17 → SA h h' a := fun a ha => c.2 a (by omega) (fun q => by unfold PNd ndA at q; omega)
  refine ⟨st_sa w1 c.1 (fun a h1 h2 => ?_), fun v hv => ?_, ml_fr fr gl (sa _ (by omega)) (sa _ (by omega)) nx.2.2.2.1 (nx.2.2.2.2 _) (nx.2.2.2.2 _) w3, wi_fr fr gl gd (sa _ (by omega)) (sa _ (by omega)) (sa _ (by omega)) w4, ?_⟩
  · have z := sa a (by omega)
    exact ⟨fun f _ => z.2.2.2.1 f, z.1, fun _ => z.2.2.2.2.2.2⟩
  · by_cases e : v = n
    · subst e; exact nd
    · exact nd_fr fr gl (fun b h1 h2 => c.2 b (by unfold ndA at *; omega) (fun q => by unfold PNd ndA at *; omega)) (fun x h1 h2 => nx.1 v x e h1 h2) (fun x m h1 h2 => nx.2.1 v x m e h1 h2) (fun i => nx.2.2.1 v i e) (w2 v hv)
  · have z := (sa X (by omega)).2.1
    unfold MO
    rw [z, z, z, z, nx.2.2.2.2, nx.2.2.2.2, nx.2.2.2.2, nx.2.2.2.2]; exact w5
theorem rx_M {X M : Nat} {h : Hp} {s : MS} {g : GH} {K : Nat} (w : RX X M h s g K) : M = X + 92 := w.1.2.2.2.2
theorem rx_n {X M : Nat} {h : Hp} {s : MS} {g : GH} {K n : Nat} (w : RX X M h s g K) (hn : n < 5) : ND X M h s g n := w.2.1 n hn
theorem ns_i {X : Nat} {h : Hp} {a n f b : Nat} {v : Int32} (h6 : f ≠ gq 5 6) (w : NS X h a n) : NS X (sI h f b v) a n := by
  obtain ⟨k, r0, r1, r2, r3, r4, r5, r6, r7, i⟩ := w
  refine ⟨k, r0, r1, r2, r3, r4, r5, r6, r7, ?_⟩
  rw [hI_sI, if_neg (fun q => h6 q.1.symm)]; exact i
theorem ns_t {X : Nat} {h : Hp} {a n b i : Nat} {v : Int32} (w : NS X h a n) : NS X (tI h b i v) a n := w
theorem ns_r {X : Nat} {h : Hp} {a n b i : Nat} {v : Option Nat} (w : NS X h a n) : NS X (tR h b i v) a n := w
/-- an int of the node or of its disk -/
theorem rx_sI {X M : Nat} {h : Hp} {s s' : MS} {g : GH} {K n f b : Nat} {v : Int32} (w : RX X M h s g K) (hn : n < 5) (hb : b = ndA X n ∨ b = ndA X n + 13) (h6 : f ≠ gq 5 6) (h10 : f ≠ gq 5 10) (nx : NX n s s') (f1 : mA s' 1 n = mA s 1 n) (f4 : mA s' 4 n = mA s 4 n) (f5 : mA s' 5 n = mA s 5 n) (f7 : mA s' 7 n = mA s 7 n) (fl : ∀ i, lgM s' n i = lgM s n i) (fc : cmM s n ≤ cmM s' n) (nv : NV (sI h f b v) s' (ndA X n) n) : RX X M (sI h f b v) s' g K := by
  obtain ⟨d1, d2, d3, d4⟩ := rx_n w hn
  have c : Ch h (sI h f b v) (PNd X n) := ch_sI (by unfold PNd; omega)
  refine rx_node w hn c (gle_refl g) (fun _ => rfl) nx ⟨ns_i h6 d1, nv, nq_fr (pn_fr c hn (rx_M w)) (gle_refl g) rfl rfl f4 f5 fl d3, nt_fr (gle_refl g) ?_ (fun j hj => sa_sI (by omega)) rfl f1 f4 f7 fc d4⟩
  rw [hI_sI, if_neg (fun q => h10 q.1.symm)]
theorem rx_tI {X M : Nat} {h : Hp} {s s' : MS} {g : GH} {K n b i : Nat} {v : Int32} (w : RX X M h s g K) (hn : n < 5) (hb : b = ndA X n + 11 ∨ b = ndA X n + 12) (nx : NX n s s') (f1 : mA s' 1 n = mA s 1 n) (f4 : mA s' 4 n = mA s 4 n) (f5 : mA s' 5 n = mA s 5 n) (f7 : mA s' 7 n = mA s 7 n) (fl : ∀ i, lgM s' n i = lgM s n i) (fc : cmM s n ≤ cmM s' n) (nv : NV (tI h b i v) s' (ndA X n) n) : RX X M (tI h b i v) s' g K := by
  obtain ⟨d1, d2, d3, d4⟩ := rx_n w hn
  have c : Ch h (tI h b i v) (PNd X n) := ch_tI (by unfold PNd; omega)
  have e2 : aI (tI h b i v) (ndA X n + 10) = aI h (ndA X n + 10) := funext fun j => by rw [aI_tI, if_neg (by omega)]
  exact rx_node w hn c (gle_refl g) (fun _ => rfl) nx ⟨d1, nv, nq_fr (pn_fr c hn (rx_M w)) (gle_refl g) rfl rfl f4 f5 fl d3, nt_fr (h := h) (gle_refl g) rfl (fun j hj => sa_tI (by omega)) e2 f1 f4 f7 fc d4⟩
theorem lg_uA {s : MS} {k i : Nat} {v : Int32} (h : k ≠ 13) (n j : Nat) : lgM (uA s k i v) n j = lgM s n j := by unfold lgM; funext x; rw [mA_k _ _ _ _ (by omega)]
theorem cm_uA {s : MS} {k i : Nat} {v : Int32} (h : k ≠ 1 ∧ k ≠ 4 ∧ k ≠ 6) (n : Nat) : cmM (uA s k i v) n = cmM s n := by unfold cmM; rw [mA_k _ _ _ _ (by omega), mA_k _ _ _ _ (by omega), mA_k _ _ _ _ (by omega)]
/-- role 0 or 2 -/
theorem rx_role {X M : Nat} {h : Hp} {s : MS} {g : GH} {K n : Nat} {r : Int32} (w : RX X M h s g K) (hn : n < 5) (hr : r ≠ 1) : RX X M (sI h (gq 5 4) (ndA X n) r) (uA s 8 n r) g K := by
  obtain ⟨d1, ⟨v1, v2, v3, v4, v5, v6, v7, v8, v9, v10⟩, d3, d4⟩ := rx_n w hn
  refine rx_sI w hn (Or.inl rfl) (by decide) (by decide) (nx_uA (by decide)) (mA_k _ _ _ _ (by decide)) (mA_k _ _ _ _ (by decide)) (mA_k _ _ _ _ (by decide)) (mA_k _ _ _ _ (by decide)) (lg_uA (by decide) n) (Nat.le_of_eq (cm_uA (by decide) n).symm) ?_
  unfold NV
  simp [hI_sI, aI_sI, mA_uA, gq, hr]
  simp only [gq] at v1 v3 v4 v5 v6 v7 v8 v9
  exact ⟨v1, v3, v5, v6, v7, v8, v9, v10⟩
theorem rx_cand {X M : Nat} {h : Hp} {s : MS} {g : GH} {K n : Nat} {v : Int32} (w : RX X M h s g K) (hn : n < 5) : RX X M (sI (sI h (gq 5 4) (ndA X n) 1) (gq 5 9) (ndA X n) v) (uA (uA s 8 n 1) 9 n v) g K := by
  obtain ⟨d1, ⟨v1, v2, v3, v4, v5, v6, v7, v8, v9, v10⟩, d3, d4⟩ := rx_n w hn
  have c : Ch h (sI (sI h (gq 5 4) (ndA X n) 1) (gq 5 9) (ndA X n) v) (PNd X n) := ch_trans (ch_sI (by unfold PNd; omega)) (ch_sI (by unfold PNd; omega))
  refine rx_node w hn c (gle_refl g) (fun _ => rfl) (nx_trans (nx_uA (by decide)) (nx_uA (by decide))) ⟨ns_i (by decide) (ns_i (by decide) d1), ?_, nq_fr (pn_fr c hn (rx_M w)) (gle_refl g) rfl rfl (by simp [mA_uA]) (by simp [mA_uA]) (fun i => by rw [lg_uA (by decide), lg_uA (by decide)]) d3, nt_fr (gle_refl g) (by simp [hI_sI, gq]) (fun j hj => sa_trans (sa_sI (by omega)) (sa_sI (by omega))) rfl (by simp [mA_uA]) (by simp [mA_uA]) (by simp [mA_uA]) (Nat.le_of_eq (by rw [cm_uA (by decide), cm_uA (by decide)])) d4⟩
  unfold NV
  simp [hI_sI, aI_sI, mA_uA, gq]
  simp only [gq] at v1 v3 v4 v5 v6 v7 v8 v9
  exact ⟨v1, v3, v5, v6, v7, v8, v9, v10⟩
theorem rx_votes {X M : Nat} {h : Hp} {s : MS} {g : GH} {K n : Nat} {v : Int32} (w : RX X M h s g K) (hn : n < 5) : RX X M (sI h (gq 5 9) (ndA X n) v) (uA s 9 n v) g K := by
  obtain ⟨d1, ⟨v1, v2, v3, v4, v5, v6, v7, v8, v9, v10⟩, d3, d4⟩ := rx_n w hn
  refine rx_sI w hn (Or.inl rfl) (by decide) (by decide) (nx_uA (by decide)) (mA_k _ _ _ _ (by decide)) (mA_k _ _ _ _ (by decide)) (mA_k _ _ _ _ (by decide)) (mA_k _ _ _ _ (by decide)) (lg_uA (by decide) n) (Nat.le_of_eq (cm_uA (by decide) n).symm) ?_
  unfold NV
  simp [hI_sI, aI_sI, mA_uA, gq]
  simp only [gq] at v1 v2 v3 v4 v5 v6 v7 v8 v9
  exact ⟨v1, v2, v3, v5, v6, v7, v8, v9, v10⟩
theorem rx_term {X M : Nat} {h : Hp} {s : MS} {g : GH} {K n : Nat} {t v : Int32} (w : RX X M h s g K) (hn : n < 5) : RX X M (sI (sI h (gq 1 0) (ndA X n + 13) t) (gq 1 1) (ndA X n + 13) v) (uA (uA s 2 n t) 3 n v) g K := by
  obtain ⟨d1, ⟨v1, v2, v3, v4, v5, v6, v7, v8, v9, v10⟩, d3, d4⟩ := rx_n w hn
  have c : Ch h (sI (sI h (gq 1 0) (ndA X n + 13) t) (gq 1 1) (ndA X n + 13) v) (PNd X n) := ch_trans (ch_sI (by unfold PNd; omega)) (ch_sI (by unfold PNd; omega))
  refine rx_node w hn c (gle_refl g) (fun _ => rfl) (nx_trans (nx_uA (by decide)) (nx_uA (by decide))) ⟨ns_i (by decide) (ns_i (by decide) d1), ?_, nq_fr (pn_fr c hn (rx_M w)) (gle_refl g) rfl rfl (by simp [mA_uA]) (by simp [mA_uA]) (fun i => by rw [lg_uA (by decide), lg_uA (by decide)]) d3, nt_fr (gle_refl g) (by simp [hI_sI, gq]) (fun j hj => sa_trans (sa_sI (by omega)) (sa_sI (by omega))) rfl (by simp [mA_uA]) (by simp [mA_uA]) (by simp [mA_uA]) (Nat.le_of_eq (by rw [cm_uA (by decide), cm_uA (by decide)])) d4⟩
  unfold NV
  simp [hI_sI, aI_sI, mA_uA, gq]
  simp only [gq] at v1 v2 v3 v4 v5 v6 v7 v8 v9
  exact ⟨v1, v2, v3, v4, v5, v8, v9, v10⟩
theorem rx_commit {X M : Nat} {h : Hp} {s : MS} {g : GH} {K n k : Nat} (w : RX X M h s g K) (hn : n < 5) (hu : mA s 1 n = 1) (hk : cmM s n ≤ k) (hk' : k < 100000) : RX X M (sI h (gq 5 5) (ndA X n) (Int32.ofNat k)) (uA s 6 n (Int32.ofNat k)) g K := by
  obtain ⟨d1, ⟨v1, v2, v3, v4, v5, v6, v7, v8, v9, v10⟩, d3, d4⟩ := rx_n w hn
  refine rx_sI w hn (Or.inl rfl) (by decide) (by decide) (nx_uA (by decide)) (mA_k _ _ _ _ (by decide)) (mA_k _ _ _ _ (by decide)) (mA_k _ _ _ _ (by decide)) (mA_k _ _ _ _ (by decide)) (lg_uA (by decide) n) (by refine Nat.le_trans hk (Nat.le_of_eq ?_); unfold cmM; rw [mA_k _ _ _ _ (by decide), mA_h, hu, if_neg (by decide), io_cl (by omega)]) ?_
  unfold NV
  simp [hI_sI, aI_sI, mA_uA, gq, hu]
  simp only [gq, hu] at v1 v2 v3 v4 v5 v6 v7 v8 v9
  exact ⟨v1, v2, v4, v5 trivial, v6, v7, v8, v9, v10⟩
theorem rx_next {X M : Nat} {h : Hp} {s : MS} {g : GH} {K n m : Nat} {v : Int32} (w : RX X M h s g K) (hn : n < 5) (hm : m < 5) : RX X M (tI h (ndA X n + 11) m v) (uA s 11 (5 * n + m) v) g K := by
  obtain ⟨d1, ⟨v1, v2, v3, v4, v5, v6, v7, v8, v9, v10⟩, d3, d4⟩ := rx_n w hn
  refine rx_tI w hn (Or.inl rfl) (nx_uX (by decide) hm) (mA_k _ _ _ _ (by decide)) (mA_k _ _ _ _ (by decide)) (mA_k _ _ _ _ (by decide)) (mA_k _ _ _ _ (by decide)) (lg_uA (by decide) n) (Nat.le_of_eq (cm_uA (by decide) n).symm) ?_
  unfold NV
  simp only [hI_tI, aI_tI]
  rw [mA_k _ _ _ _ (by decide), mA_k _ _ _ _ (by decide), mA_k _ _ _ _ (by decide), mA_k _ _ _ _ (by decide), mA_k _ _ _ _ (by decide), mA_k _ _ _ _ (by decide), mA_k _ _ _ _ (by decide), mA_k _ _ _ _ (by decide), mA_k _ _ _ _ (by decide), mA_k _ _ _ _ (by decide)]
  refine ⟨v1, v2, v3, v4, v5, v6, v7, v8, v9, fun q hq => ⟨?_, ?_⟩⟩
  · rw [mA_uA]
    by_cases e : q = m
    · rw [if_pos (And.intro trivial e), if_pos (by omega)]
    · rw [if_neg (by omega), if_neg (by omega)]; exact (v10 q hq).1
  · rw [if_neg (by omega), mA_k _ _ _ _ (by decide)]; exact (v10 q hq).2
theorem rx_match {X M : Nat} {h : Hp} {s : MS} {g : GH} {K n m : Nat} {v : Int32} (w : RX X M h s g K) (hn : n < 5) (hm : m < 5) : RX X M (tI h (ndA X n + 12) m v) (uA s 12 (5 * n + m) v) g K := by
  obtain ⟨d1, ⟨v1, v2, v3, v4, v5, v6, v7, v8, v9, v10⟩, d3, d4⟩ := rx_n w hn
  refine rx_tI w hn (Or.inr rfl) (nx_uX (by decide) hm) (mA_k _ _ _ _ (by decide)) (mA_k _ _ _ _ (by decide)) (mA_k _ _ _ _ (by decide)) (mA_k _ _ _ _ (by decide)) (lg_uA (by decide) n) (Nat.le_of_eq (cm_uA (by decide) n).symm) ?_
  unfold NV
  simp only [hI_tI, aI_tI]
  rw [mA_k _ _ _ _ (by decide), mA_k _ _ _ _ (by decide), mA_k _ _ _ _ (by decide), mA_k _ _ _ _ (by decide), mA_k _ _ _ _ (by decide), mA_k _ _ _ _ (by decide), mA_k _ _ _ _ (by decide), mA_k _ _ _ _ (by decide), mA_k _ _ _ _ (by decide), mA_k _ _ _ _ (by decide)]
  refine ⟨v1, v2, v3, v4, v5, v6, v7, v8, v9, fun q hq => ⟨?_, ?_⟩⟩
  · rw [if_neg (by omega), mA_k _ _ _ _ (by decide)]; exact (v10 q hq).1
  · rw [mA_uA]
    by_cases e : q = m
    · rw [if_pos (And.intro trivial e), if_pos (by omega)]
    · rw [if_neg (by omega), if_neg (by omega)]; exact (v10 q hq).2
/-- a record is counted -/
def cP (h : Hp) (d : Nat) : Hp := if hI h (gq 1 4) d ≤ 0 then h else sI h (gq 1 4) d (hI h (gq 1 4) d - 1)
theorem rx_left {X M : Nat} {h : Hp} {s : MS} {g : GH} {K n : Nat} {v : Int32} (w : RX X M h s g K) (hn : n < 5) : RX X M (sI h (gq 1 4) (ndA X n + 13) v) (uA s 10 n v) g K := by
  obtain ⟨d1, ⟨v1, v2, v3, v4, v5, v6, v7, v8, v9, v10⟩, d3, d4⟩ := rx_n w hn
  refine rx_sI w hn (Or.inr rfl) (by decide) (by decide) (nx_uA (by decide)) (mA_k _ _ _ _ (by decide)) (mA_k _ _ _ _ (by decide)) (mA_k _ _ _ _ (by decide)) (mA_k _ _ _ _ (by decide)) (lg_uA (by decide) n) (Nat.le_of_eq (cm_uA (by decide) n).symm) ?_
  unfold NV
  simp [hI_sI, aI_sI, mA_uA, gq]
  simp only [gq] at v1 v2 v3 v4 v5 v6 v7 v8 v9
  exact ⟨v1, v2, v3, v4, v5, v6, v7, v8, v10⟩
theorem rx_pow {X M : Nat} {h : Hp} {s : MS} {g : GH} {K n : Nat} (w : RX X M h s g K) (hn : n < 5) : RX X M (cP h (ndA X n + 13)) (oP n s) g K := by
  have e : hI h (gq 1 4) (ndA X n + 13) = mA s 10 n := (rx_n w hn).2.1.2.2.2.2.2.2.2.2.1
  unfold cP oP
  rw [e]
  by_cases z : mA s 10 n ≤ 0
  · rw [if_pos z, if_pos z]; exact w
  · rw [if_neg z, if_neg z]; exact rx_left w hn
/-- n goes down -/
def cDn (h : Hp) (a : Nat) (b : Int32) : Hp := sI (sI (sI (sI (sI (sI h (gq 5 3) a 0) (gq 5 4) a 0) (gq 5 9) a 0) (gq 5 5) a b) (gq 5 10) a b) (gq 1 4) (a + 13) (-1)
theorem rx_down {X M : Nat} {h : Hp} {s : MS} {g : GH} {K n : Nat} (w : RX X M h s g K) (hn : n < 5) : RX X M (cDn h (ndA X n) (mA s 4 n)) (oD n s) g K := by
  obtain ⟨d1, ⟨v1, v2, v3, v4, v5, v6, v7, v8, v9, v10⟩, d3, d4⟩ := rx_n w hn
  have c : Ch h (cDn h (ndA X n) (mA s 4 n)) (PNd X n) := ch_trans (ch_trans (ch_trans (ch_trans (ch_trans (ch_sI (by unfold PNd; omega)) (ch_sI (by unfold PNd; omega))) (ch_sI (by unfold PNd; omega))) (ch_sI (by unfold PNd; omega))) (ch_sI (by unfold PNd; omega))) (ch_sI (by unfold PNd; omega))
  refine rx_node w hn c (gle_refl g) (fun _ => rfl) nx_oD ⟨ns_i (by decide) (ns_i (by decide) (ns_i (by decide) (ns_i (by decide) (ns_i (by decide) (ns_i (by decide) d1))))), ?_, nq_fr (pn_fr c hn (rx_M w)) (gle_refl g) rfl rfl (by simp [oD, mA_uA]) (by simp [oD, mA_uA]) (fun i => by unfold oD; rw [lg_uA (by decide), lg_uA (by decide), lg_uA (by decide)]) d3, fun u => ?_⟩
  · unfold NV cDn oD
    simp [hI_sI, aI_sI, mA_uA, gq]
    simp only [gq] at v1 v2 v3 v4 v5 v6 v7 v8 v9
    exact ⟨v6, v7, v8, v10⟩
  · exfalso
    simp [oD, mA_uA] at u
