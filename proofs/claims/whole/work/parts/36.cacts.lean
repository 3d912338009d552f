/-! ===== the class writes records ===== -/
section
variable {X M : Nat} {h : Hp} {s : MS} {g : GH} {K n : Nat}
theorem c_power (w : RX X M h s g K) (hn : n < 5) : fX1_powerFails (ndA X n + 13) h = if mA s 10 n = 0 then some (1, h) else some (0, cP h (ndA X n + 13)) := by
  unfold fX1_powerFails cP
  rw [gI_k (q_k1 w hn), bd_some, q_left w hn]
  by_cases z : mA s 10 n = 0
  · rw [if_pos z, if_pos z]
  · rw [if_neg z, if_neg z, bd_some]
    by_cases z2 : mA s 10 n ≤ 0
    · rw [if_pos z2, if_pos z2]
    · rw [if_neg z2, if_neg z2, bd_some, pI_k (q_k1 w hn), bd_some]
theorem hK_cP (h : Hp) (d c : Nat) : hK (cP h d) c = hK h c := by unfold cP; split <;> rfl
theorem hZ_cP (h : Hp) (d : Nat) : hZ (cP h d) = hZ h := by unfold cP; split <;> rfl
theorem hR_cP (h : Hp) (d f c : Nat) : hR (cP h d) f c = hR h f c := by unfold cP; split <;> rfl
theorem ch_cP {P : Nat → Prop} {h : Hp} {d : Nat} (e : P d) : Ch h (cP h d) P := by
  unfold cP; split
  · exact ch_refl h P
  · exact ch_sI e
theorem c_goDown (w : RX X M h s g K) (hn : n < 5) : fX5_goDown (ndA X n) h = some ((), cDn h (ndA X n) (mA s 4 n)) := by
  obtain ⟨q, y, T, e1, e0, e2, e3⟩ := q_snap w hn
  have k5 := q_k5 w hn
  have k1 := q_k1 w hn
  have r0 := (rx_n w hn).1.2.1
  have r3 : hR h (gq 1 3) (ndA X n + 13) = some q := by rw [gR_k k1] at e1; exact Option.some.inj e1
  have k6 := e3.2.1
  have b6 := e3.2.2.1
  simp only [fX5_goDown, pZ, pI, gR, gI, hK_sI, hR_sI, k5, k1, r0, r3, k6, bd_some, onR_some, hI_sI, true_or, and_true, if_true]
  simp [gq] at b6 ⊢
  rw [b6]
  rfl
theorem cc_down {a : Nat} {b : Int32} (hn : n < 5) (e : a = ndA X n) : CC X n h (cDn h a b) := by
  subst e
  exact cc_nd (ch_trans (ch_trans (ch_trans (ch_trans (ch_trans (ch_sI (by unfold PNd; omega)) (ch_sI (by unfold PNd; omega))) (ch_sI (by unfold PNd; omega))) (ch_sI (by unfold PNd; omega))) (ch_sI (by unfold PNd; omega))) (ch_sI (by unfold PNd; omega))) hn
theorem c_fail (w : RX X M h s g K) (hn : n < 5) : fX5_survives (ndA X n) 0 h = some (0, cDn h (ndA X n) (mA s 4 n)) := by
  unfold fX5_survives
  rw [if_pos rfl, if_pos (q_k5 w hn), c_goDown w hn, bd2_some, if_pos (Or.inl rfl)]
theorem c_ok (a : Nat) (h : Hp) : fX5_survives a 1 h = some (1, h) := by
  unfold fX5_survives
  rw [if_neg (by decide), if_pos (Or.inr rfl)]
def cVt (h : Hp) (d : Nat) (T v : Int32) : Hp := sI (sI (cP h d) (gq 1 0) d T) (gq 1 1) d v
theorem c_recVote (w : RX X M h s g K) (hn : n < 5) (T v : Int32) : fX1_recordVote (ndA X n + 13) T v h = if mA s 10 n = 0 then some (0, h) else some (1, cVt h (ndA X n + 13) T v) := by
  unfold fX1_recordVote
  rw [if_pos (q_k1 w hn), c_power w hn]
  by_cases z : mA s 10 n = 0
  · rw [if_pos z, if_pos z, bd2_some, if_neg (by decide)]
  · have k : hK (cP h (ndA X n + 13)) (ndA X n + 13) = some (1, 0) := by rw [hK_cP]; exact q_k1 w hn
    rw [if_neg z, if_neg z, bd2_some, if_pos rfl, pI_k k, bd_some, pI_k (h := sI (cP h (ndA X n + 13)) (gq 1 0) (ndA X n + 13) T) k, bd_some]
    rfl
/-- a VOTE record, or the power fails -/
theorem c_vote {β : Type} (w : RX X M h s g K) (hn : n < 5) (T v : Int32) (k : Int32 → Hp → Option β) : (bd2 (fX1_recordVote (ndA X n + 13) T v h) fun z h1 => if hK h1 (ndA X n) = some (5, 0) then bd2 (fX5_survives (ndA X n) z h1) k else none) = if mA s 10 n = 0 then k 0 (cDn h (ndA X n) (mA s 4 n)) else k 1 (cVt h (ndA X n + 13) T v) := by
  rw [c_recVote w hn]
  by_cases z : mA s 10 n = 0
  · rw [if_pos z, if_pos z, bd2_some, if_pos (q_k5 w hn), c_fail w hn, bd2_some]
  · have k5 : hK (cVt h (ndA X n + 13) T v) (ndA X n) = some (5, 0) := by
      show hK (cP h (ndA X n + 13)) (ndA X n) = _
      rw [hK_cP]; exact q_k5 w hn
    rw [if_neg z, if_neg z, bd2_some, if_pos k5, c_ok, bd2_some]
theorem rx_vt (w : RX X M h s g K) (hn : n < 5) (T v : Int32) : RX X M (cVt h (ndA X n + 13) T v) (uA (uA (oP n s) 2 n T) 3 n v) g K := rx_term (rx_pow w hn) hn
theorem cc_vt (hn : n < 5) (T v : Int32) : CC X n h (cVt h (ndA X n + 13) T v) := cc_nd (ch_trans (ch_trans (ch_cP (by unfold PNd; omega)) (ch_sI (by unfold PNd; omega))) (ch_sI (by unfold PNd; omega))) hn
/-- an entry comes -/
def cEn (h : Hp) (a idx q : Nat) : Hp := sI (tR h (a + 14) idx (some q)) (gq 1 2) (a + 13) (Int32.ofNat idx)
theorem ch_en {idx q : Nat} : Ch h (cEn h (ndA X n) idx q) (PNd X n) := ch_trans (ch_tR (by unfold PNd; omega)) (ch_sI (by unfold PNd; omega))
theorem rx_entry {idx q : Nat} {r : Nat → Int32} (w : RX X M h s g K) (hn : n < 5) (hi : idx ≤ 1200) (h1 : idx ≤ lsM s n + 1) (ev : EV X M h q (rw8 r)) : RX X M (cEn h (ndA X n) idx q) (oE n idx r s) g K := by
  obtain ⟨d1, ⟨v1, v2, v3, v4, v5, v6, v7, v8, v9, v10⟩, d3, d4⟩ := rx_n w hn
  have c : Ch h (cEn h (ndA X n) idx q) (PNd X n) := ch_en
  have fr := pn_fr c hn (rx_M w)
  have x : ∀ x i, x ≠ 13 → x ≠ 5 → mA (oE n idx r s) x i = mA s x i := fun x i h1 h2 => mA_oEx _ _ _ h1 (Or.inl h2)
  refine rx_node w hn c (gle_refl g) (fun _ => rfl) (nx_oE hi) ⟨ns_i (by decide) d1, ?_, ⟨?_, fun i i1 i2 => ?_⟩, nt_fr (h := h) (gle_refl g) (by unfold cEn; rw [hI_sI, if_neg (by simp [gq])]; rfl) (fun j hj => sa_trans (sa_tR (by omega)) (sa_sI (by omega))) rfl (x _ _ (by decide) (by decide)) (x _ _ (by decide) (by decide)) (x _ _ (by decide) (by decide)) ?_ d4⟩
  · unfold NV
    rw [x 1 n (by decide) (by decide), x 2 n (by decide) (by decide), x 3 n (by decide) (by decide), x 4 n (by decide) (by decide), x 6 n (by decide) (by decide), x 7 n (by decide) (by decide), x 8 n (by decide) (by decide), x 9 n (by decide) (by decide), x 10 n (by decide) (by decide), show mA (oE n idx r s) 5 n = Int32.ofNat idx by rw [mA_oE, if_neg (by omega), if_pos ⟨rfl, rfl⟩]]
    simp [cEn, hI_sI, hI_tR, aI_sI, aI_tR, gq]
    simp only [gq] at v1 v2 v3 v4 v5 v6 v7 v8 v9
    refine ⟨v1, v2, v3, v4, v5, v6, v7, v9, fun m hm => ?_⟩
    rw [x 11 _ (by decide) (by decide), x 12 _ (by decide) (by decide)]; exact v10 m hm
  · obtain ⟨q', y, T, z1, z0, z2, z3⟩ := d3.1
    have b : bsM (oE n idx r s) n = bsM s n := by unfold bsM; rw [x 4 n (by decide) (by decide)]
    rw [b, x 4 n (by decide) (by decide)]
    exact ⟨q', y, T, z1, z0, z2, sv_fr fr z3⟩
  · have b : bsM (oE n idx r s) n = bsM s n := by unfold bsM; rw [x 4 n (by decide) (by decide)]
    rw [b] at i1
    rw [ls_oE hi, up1_eq] at i2
    rw [lg_oE hi]
    by_cases z : i = idx
    · subst z
      rw [up2_eq]
      exact ⟨q, by unfold cEn; rw [aR_sI, aR_tR, if_pos ⟨rfl, rfl⟩], ev_fr fr ev⟩
    · rw [up2_n2 _ _ _ z]
      obtain ⟨e, e1, e2⟩ := d3.2 i i1 (by omega)
      exact ⟨e, by unfold cEn; rw [aR_sI, aR_tR, if_neg (by omega)]; exact e1, ev_fr fr e2⟩
  · unfold cmM; rw [x 1 n (by decide) (by decide), x 4 n (by decide) (by decide), x 6 n (by decide) (by decide)]; exact Nat.le_refl _
theorem c_recEntry {idx q : Nat} (w : RX X M h s g K) (hn : n < 5) (h1 : 1 ≤ idx) (hi : idx ≤ 1200) (kq : hK h q = some (2, 0)) : fX1_recordEntry (ndA X n + 13) (Int32.ofNat idx) q h = if mA s 10 n = 0 then some (0, h) else some (1, cEn (cP h (ndA X n + 13)) (ndA X n) idx q) := by
  unfold fX1_recordEntry
  rw [if_neg (by rw [show (1 : Int32) = Int32.ofNat 1 from rfl, io_lt (by omega) (by omega)]; omega), q_ents w hn, bd_some, onR_some, lnA_k (q_k14 w hn), bd_some, if_neg (by rw [io_le (by omega) (by omega)]; omega), if_pos (q_k1 w hn), c_power w hn]
  by_cases z : mA s 10 n = 0
  · rw [if_pos z, if_pos z, bd2_some, if_neg (by decide)]
  · have k : hK (cP h (ndA X n + 13)) (ndA X n + 13) = some (1, 0) := by rw [hK_cP]; exact q_k1 w hn
    have w2 := rx_pow w hn
    rw [if_neg z, if_neg z, bd2_some, if_pos rfl, q_ents w2 hn, bd_some, onR_some, stR_k (q_k14 w2 hn) (by omega) (by decide) (by rw [hK_cP]; exact kq), bd_some, pI_k (h := tR (cP h (ndA X n + 13)) (ndA X n + 14) idx (some q)) k, bd_some]
    rfl
theorem c_take {β : Type} {idx q : Nat} (w : RX X M h s g K) (hn : n < 5) (h1 : 1 ≤ idx) (hi : idx ≤ 1200) (kq : hK h q = some (2, 0)) (k : Int32 → Hp → Option β) : (bd2 (fX1_recordEntry (ndA X n + 13) (Int32.ofNat idx) q h) fun z h1 => if hK h1 (ndA X n) = some (5, 0) then bd2 (fX5_survives (ndA X n) z h1) k else none) = if mA s 10 n = 0 then k 0 (cDn h (ndA X n) (mA s 4 n)) else k 1 (cEn (cP h (ndA X n + 13)) (ndA X n) idx q) := by
  rw [c_recEntry w hn h1 hi kq]
  by_cases z : mA s 10 n = 0
  · rw [if_pos z, if_pos z, bd2_some, if_pos (q_k5 w hn), c_fail w hn, bd2_some]
  · have k5 : hK (cEn (cP h (ndA X n + 13)) (ndA X n) idx q) (ndA X n) = some (5, 0) := by
      show hK (cP h (ndA X n + 13)) (ndA X n) = _
      rw [hK_cP]; exact q_k5 w hn
    rw [if_neg z, if_neg z, bd2_some, if_pos k5, c_ok, bd2_some]
theorem cc_en {idx q : Nat} (hn : n < 5) : CC X n h (cEn (cP h (ndA X n + 13)) (ndA X n) idx q) := cc_nd (ch_trans (ch_cP (by unfold PNd; omega)) ch_en) hn
/-- the leader's log grows by a Command -/
theorem c_lengthen {c : Nat} {e : Nat → Int32} (w : RX X M h s g K) (hn : n < 5) (hl : lsM s n + 1 ≤ 1200) (h5 : mA s 5 n = Int32.ofNat (lsM s n)) (ic : IM X M h c) (kc : hK h c = some (0, 0)) (ec : ∀ j, j < 7 → hI h (gq 0 j) c = e (j + 1)) (e0 : e 0 = mA s 2 n) : ∃ h', fX5_lengthenLog (ndA X n) c h = some (if mA s 10 n = 0 then 0 else 1, h') ∧ CC X n h h' ∧ RX X M h' (if mA s 10 n = 0 then oD n s else oE n (lsM s n + 1) e (oP n s)) g K := by
  have hz : M + 40 ≤ hZ h := w.1.2.2.2.1
  have w1 : RX X M (nO h 2) s g K := rx_new0 w ch_nO
  have kz : hK (nO h 2) (hZ h) = some (2, 0) := by rw [hK_nO, if_pos rfl]
  let h2 := sR (sI (nO h 2) (gq 2 0) (hZ h) (mA s 2 n)) (gq 2 1) (hZ h) (some c)
  have c2 : Ch h h2 (fun _ => False) := ch_sRn (ch_sIn ch_nO (Nat.le_refl _)) (Nat.le_refl _)
  have w2 : RX X M h2 s g K := rx_new0 w c2
  have i2 : fX2_init (hZ h) (mA s 2 n) c (nO h 2) = some ((), h2) := by
    simp only [fX2_init, pI, pR, hK_sI, kz, if_true, bd_some]; rfl
  have k2 : hK h2 (hZ h) = some (2, 0) := kz
  have icne : c ≠ hZ h := by have := ic.1; omega
  have ev : EV X M h2 (hZ h) (rw8 e) := by
    have sc := c2.2 c ic.1 id
    refine ⟨⟨by show hZ h < hZ h + 1; omega, by omega⟩, k2, ?_, c, ?_, ⟨Nat.lt_of_lt_of_le ic.1 c2.1, ic.2⟩, sc.1.trans kc, fun j hj => ?_⟩
    · show hI h2 (gq 2 0) (hZ h) = e 0
      show (if gq 2 0 = gq 2 0 ∧ hZ h = hZ h then mA s 2 n else _) = e 0
      rw [if_pos ⟨rfl, rfl⟩, e0]
    · show (if gq 2 1 = gq 2 1 ∧ hZ h = hZ h then some c else _) = some c
      rw [if_pos ⟨rfl, rfl⟩]
    · rw [sc.2.1, ec j hj]; unfold rw8; rw [if_pos (by omega)]
  unfold fX5_lengthenLog nwO
  rw [q_disk w hn, bd_some, onR_some, bd_some, onR_some, q_last w hn, bd_some, bd_some, q_disk w1 hn, bd_some, onR_some, q_term w1 hn, bd_some, i2, bd2_some, if_pos (q_k1 w2 hn), h5, io_a1, c_take w2 hn (by omega) hl k2]
  have ch2 : CC X n h h2 := cc_none c2
  by_cases z : mA s 10 n = 0
  · rw [if_pos z, if_pos z, if_pos z, if_pos (Or.inl rfl)]
    exact ⟨_, rfl, cc_trans ch2 (cc_down hn rfl), rx_down w2 hn⟩
  · rw [if_neg z, if_neg z, if_neg z, if_pos (Or.inr rfl)]
    have w3 := rx_pow w2 hn
    have el : lsM (oP n s) n = lsM s n := by unfold lsM; rw [mA_oP _ _ _ (by decide)]
    exact ⟨_, rfl, cc_trans ch2 (cc_en hn), rx_entry w3 hn hl (by rw [el]; exact Nat.le_refl _) (ev_fr (fr_ch (P := PNd X n) (ch_cP (by unfold PNd; omega)) (fun a q => by have := rx_M w; unfold PNd ndA at q; omega)) ev)⟩
end
