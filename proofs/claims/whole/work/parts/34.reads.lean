/-! ===== what the class reads ===== -/
section
variable {X M : Nat} {h : Hp} {s : MS} {g : GH} {K n : Nat}
theorem gI_k {ci k a : Nat} {h : Hp} (e : hK h a = some (ci, 0)) : gI h ci k a = some (hI h (gq ci k) a) := if_pos e
theorem gR_k {ci k a : Nat} {h : Hp} (e : hK h a = some (ci, 0)) : gR h ci k a = some (hR h (gq ci k) a) := if_pos e
theorem pI_k {ci k a : Nat} {v : Int32} {h : Hp} (e : hK h a = some (ci, 0)) : pI h ci k a v = some (sI h (gq ci k) a v) := if_pos e
theorem pR_k {ci k a : Nat} {v : Option Nat} {h : Hp} (e : hK h a = some (ci, 0)) : pR h ci k a v = some (sR h (gq ci k) a v) := if_pos e
theorem ldI_k {t L a i : Nat} {h : Hp} (e : hK h a = some (t, L)) (hi : i < L) (hL : L < 100000) : ldI h t a (Int32.ofNat i) = some (aI h a i) := by
  unfold ldI inB
  rw [e]
  simp only [io_cl (show i < 2147483648 by omega), io_nn (show i < 2147483648 by omega)]
  simp [hi]
theorem ldR_k {t L a i : Nat} {h : Hp} (e : hK h a = some (t, L)) (hi : i < L) (hL : L < 100000) : ldR h t a (Int32.ofNat i) = some (aR h a i) := by
  unfold ldR inB
  rw [e]
  simp only [io_cl (show i < 2147483648 by omega), io_nn (show i < 2147483648 by omega)]
  simp [hi]
theorem stI_k {t L a i : Nat} {v : Int32} {h : Hp} (e : hK h a = some (t, L)) (hi : i < L) (hL : L < 100000) : stI h t a (Int32.ofNat i) v = some (tI h a i v) := by
  unfold stI inB
  rw [e]
  simp only [io_cl (show i < 2147483648 by omega), io_nn (show i < 2147483648 by omega)]
  simp [hi]
theorem stR_k {t L a i c v : Nat} {h : Hp} (e : hK h a = some (t, L)) (hi : i < L) (hL : L < 100000) (hv : hK h v = some (c, 0)) : stR h t c a (Int32.ofNat i) v = some (tR h a i (some v)) := by
  unfold stR inB
  rw [e, hv]
  simp only [io_cl (show i < 2147483648 by omega), io_nn (show i < 2147483648 by omega)]
  simp [hi]
theorem lnA_k {t L a : Nat} {h : Hp} (e : hK h a = some (t, L)) : lnA h t a = some (Int32.ofNat L) := by
  unfold lnA; rw [e]; exact if_pos rfl
theorem q_k5 (w : RX X M h s g K) (hn : n < 5) : hK h (ndA X n) = some (5, 0) := (rx_n w hn).1.1.1
theorem q_k1 (w : RX X M h s g K) (hn : n < 5) : hK h (ndA X n + 13) = some (1, 0) := (rx_n w hn).1.1.2.2.2.2.2.1
theorem q_k14 (w : RX X M h s g K) (hn : n < 5) : hK h (ndA X n + 14) = some (14, 1201) := (rx_n w hn).1.1.2.2.2.2.2.2
theorem q_k10 (w : RX X M h s g K) (hn : n < 5) : hK h (ndA X n + 10) = some (11, 1201) := (rx_n w hn).1.1.2.2.1
theorem q_k11 (w : RX X M h s g K) (hn : n < 5) : hK h (ndA X n + 11) = some (11, 5) := (rx_n w hn).1.1.2.2.2.1
theorem q_k12 (w : RX X M h s g K) (hn : n < 5) : hK h (ndA X n + 12) = some (11, 5) := (rx_n w hn).1.1.2.2.2.2.1
theorem q_sw (w : RX X M h s g K) (hn : n < 5) : SW (ndA X n + 1) h := (rx_n w hn).1.1.2.1
theorem q_disk (w : RX X M h s g K) (hn : n < 5) : gR h 5 0 (ndA X n) = some (some (ndA X n + 13)) := by rw [gR_k (q_k5 w hn), (rx_n w hn).1.2.1]
theorem q_store (w : RX X M h s g K) (hn : n < 5) : gR h 5 1 (ndA X n) = some (some (ndA X n + 1)) := by rw [gR_k (q_k5 w hn), (rx_n w hn).1.2.2.1]
theorem q_res (w : RX X M h s g K) (hn : n < 5) : gR h 5 2 (ndA X n) = some (some (ndA X n + 10)) := by rw [gR_k (q_k5 w hn), (rx_n w hn).1.2.2.2.1]
theorem q_mail (w : RX X M h s g K) (hn : n < 5) : gR h 5 7 (ndA X n) = some (some (X + 1)) := by rw [gR_k (q_k5 w hn), (rx_n w hn).1.2.2.2.2.1]
theorem q_wit (w : RX X M h s g K) (hn : n < 5) : gR h 5 8 (ndA X n) = some (some (X + 3)) := by rw [gR_k (q_k5 w hn), (rx_n w hn).1.2.2.2.2.2.1]
theorem q_nextR (w : RX X M h s g K) (hn : n < 5) : gR h 5 12 (ndA X n) = some (some (ndA X n + 11)) := by rw [gR_k (q_k5 w hn), (rx_n w hn).1.2.2.2.2.2.2.1]
theorem q_matchR (w : RX X M h s g K) (hn : n < 5) : gR h 5 13 (ndA X n) = some (some (ndA X n + 12)) := by rw [gR_k (q_k5 w hn), (rx_n w hn).1.2.2.2.2.2.2.2.1]
theorem q_ents (w : RX X M h s g K) (hn : n < 5) : gR h 1 5 (ndA X n + 13) = some (some (ndA X n + 14)) := by rw [gR_k (q_k1 w hn), (rx_n w hn).1.2.2.2.2.2.2.2.2.1]
theorem q_num (w : RX X M h s g K) (hn : n < 5) : gI h 5 6 (ndA X n) = some (Int32.ofNat n) := by rw [gI_k (q_k5 w hn), (rx_n w hn).1.2.2.2.2.2.2.2.2.2]
theorem q_up (w : RX X M h s g K) (hn : n < 5) : gI h 5 3 (ndA X n) = some (mA s 1 n) := by rw [gI_k (q_k5 w hn), (rx_n w hn).2.1.1]
theorem q_role (w : RX X M h s g K) (hn : n < 5) : gI h 5 4 (ndA X n) = some (mA s 8 n) := by rw [gI_k (q_k5 w hn), (rx_n w hn).2.1.2.1]
theorem q_com (w : RX X M h s g K) (hn : n < 5) : gI h 5 5 (ndA X n) = some (if mA s 1 n = 0 then mA s 4 n else mA s 6 n) := by rw [gI_k (q_k5 w hn), (rx_n w hn).2.1.2.2.1]
theorem q_comU (w : RX X M h s g K) (hn : n < 5) (hu : mA s 1 n = 1) : gI h 5 5 (ndA X n) = some (mA s 6 n) := by rw [q_com w hn, hu]; rfl
theorem q_votes (w : RX X M h s g K) (hn : n < 5) (h1 : mA s 8 n = 1) : gI h 5 9 (ndA X n) = some (mA s 9 n) := by rw [gI_k (q_k5 w hn), (rx_n w hn).2.1.2.2.2.1 h1]
theorem q_from (w : RX X M h s g K) (hn : n < 5) (hu : mA s 1 n = 1) : gI h 5 11 (ndA X n) = some (mA s 7 n) := by rw [gI_k (q_k5 w hn), ((rx_n w hn).2.1.2.2.2.2.1 hu).1]
theorem q_term (w : RX X M h s g K) (hn : n < 5) : gI h 1 0 (ndA X n + 13) = some (mA s 2 n) := by rw [gI_k (q_k1 w hn), (rx_n w hn).2.1.2.2.2.2.2.1]
theorem q_voted (w : RX X M h s g K) (hn : n < 5) : gI h 1 1 (ndA X n + 13) = some (mA s 3 n) := by rw [gI_k (q_k1 w hn), (rx_n w hn).2.1.2.2.2.2.2.2.1]
theorem q_last (w : RX X M h s g K) (hn : n < 5) : gI h 1 2 (ndA X n + 13) = some (mA s 5 n) := by rw [gI_k (q_k1 w hn), (rx_n w hn).2.1.2.2.2.2.2.2.2.1]
theorem q_left (w : RX X M h s g K) (hn : n < 5) : hI h (gq 1 4) (ndA X n + 13) = mA s 10 n := (rx_n w hn).2.1.2.2.2.2.2.2.2.2.1
theorem q_next (w : RX X M h s g K) (hn : n < 5) {m : Nat} (hm : m < 5) : ldI h 11 (ndA X n + 11) (Int32.ofNat m) = some (mA s 11 (5 * n + m)) := by rw [ldI_k (q_k11 w hn) hm (by decide), ((rx_n w hn).2.1.2.2.2.2.2.2.2.2.2 m hm).1]
theorem q_match (w : RX X M h s g K) (hn : n < 5) {m : Nat} (hm : m < 5) : ldI h 11 (ndA X n + 12) (Int32.ofNat m) = some (mA s 12 (5 * n + m)) := by rw [ldI_k (q_k12 w hn) hm (by decide), ((rx_n w hn).2.1.2.2.2.2.2.2.2.2.2 m hm).2]
theorem q_kX (w : RX X M h s g K) : hK h X = some (9, 0) := w.1.1.1
theorem q_k3 (w : RX X M h s g K) : hK h (X + 1) = some (3, 0) := w.1.1.2.1
theorem q_kS (w : RX X M h s g K) : hK h (X + 2) = some (15, 3000) := w.1.1.2.2.1
theorem q_k8 (w : RX X M h s g K) : hK h (X + 3) = some (8, 0) := w.1.1.2.2.2.1
theorem q_kL (w : RX X M h s g K) : hK h (X + 4) = some (11, 1024) := w.1.1.2.2.2.2.1
theorem q_kA (w : RX X M h s g K) : hK h (X + 5) = some (14, 1201) := w.1.1.2.2.2.2.2.1
theorem q_kN (w : RX X M h s g K) : hK h (X + 16) = some (16, 5) := w.1.1.2.2.2.2.2.2
theorem q_nodes (w : RX X M h s g K) : gR h 9 0 X = some (some (X + 16)) := by rw [gR_k (q_kX w), w.1.2.1.1]
theorem q_xmail (w : RX X M h s g K) : gR h 9 1 X = some (some (X + 1)) := by rw [gR_k (q_kX w), w.1.2.1.2.1]
theorem q_xwit (w : RX X M h s g K) : gR h 9 2 X = some (some (X + 3)) := by rw [gR_k (q_kX w), w.1.2.1.2.2.1]
theorem q_sent (w : RX X M h s g K) : gR h 3 0 (X + 1) = some (some (X + 2)) := by rw [gR_k (q_k3 w), w.1.2.1.2.2.2.1]
theorem q_lead (w : RX X M h s g K) : gR h 8 0 (X + 3) = some (some (X + 4)) := by rw [gR_k (q_k8 w), w.1.2.1.2.2.2.2.1]
theorem q_appl (w : RX X M h s g K) : gR h 8 1 (X + 3) = some (some (X + 5)) := by rw [gR_k (q_k8 w), w.1.2.1.2.2.2.2.2]
theorem q_count (w : RX X M h s g K) : gI h 3 1 (X + 1) = some (mF s 24) := by rw [gI_k (q_k3 w), w.2.2.1.1]
theorem q_scount (w : RX X M h s g K) : gI h 3 2 (X + 1) = some (mF s 27) := by rw [gI_k (q_k3 w), w.2.2.1.2.1]
theorem q_wrong (w : RX X M h s g K) : gI h 8 2 (X + 3) = some 0 := by rw [gI_k (q_k8 w), w.2.2.2.1.1]
theorem q_node (w : RX X M h s g K) (hn : n < 5) : ldR h 16 (X + 16) (Int32.ofNat n) = some (some (ndA X n)) := by rw [ldR_k (q_kN w) hn (by decide), w.1.2.2.1 n hn]
/-- the disk's snapshot -/
theorem q_snap (w : RX X M h s g K) (hn : n < 5) : ∃ q x T, gR h 1 3 (ndA X n + 13) = some (some q) ∧ x 0 = e0M ∧ CPM g x T (bsM s n) ∧ SV X M h q (mA s 4 n) (x (bsM s n) 0) (rp x (bsM s n)) := by
  obtain ⟨q, x, T, e1, e0, e2, e3⟩ := (rx_n w hn).2.2.1.1
  exact ⟨q, x, T, by rw [gR_k (q_k1 w hn), e1], e0, e2, e3⟩
theorem sv_b {a : Nat} {b t : Int32} {p : MS} (v : SV X M h a b t p) : gI h 6 1 a = some b := by rw [gI_k v.2.1, v.2.2.1]
theorem sv_t {a : Nat} {b t : Int32} {p : MS} (v : SV X M h a b t p) : gI h 6 2 a = some t := by rw [gI_k v.2.1, v.2.2.2.1]
/-- committed logs agree -/
theorem mi_safe {B W : Nat} (mi : MI s g B K W) {x y : Nat → Nat → Int32} {T T' k k' j : Nat} (a : CPM g x T k) (b : CPM g y T' k') (h1 : 1 ≤ j) (h2 : j ≤ k) (h3 : j ≤ k') : x j = y j := r_safe mi.1 a b h1 h2 h3
theorem mi_cm {B W : Nat} (mi : MI s g B K W) (n : Nat) : cmM s n ≤ lsM s n ∧ bsM s n ≤ cmM s n ∧ CPM g (lgM s n) (tmM s n) (cmM s n) := mi.1.2.2.2.2.2.2.2.2.2.2.2.2.2 n
theorem mi_base {B W : Nat} (mi : MI s g B K W) {x : Nat → Nat → Int32} {T : Nat} (e0 : x 0 = e0M) (c : CPM g x T (bsM s n)) : x (bsM s n) = lgM s n (bsM s n) := by
  by_cases z : bsM s n = 0
  · rw [z, e0, rm_0 mi.1]
  · exact mi_safe mi c (mi_cm mi n).2.2 (by omega) (Nat.le_refl _) (mi_cm mi n).2.1
theorem mi_4 {B W : Nat} (mi : MI s g B K W) (hn : n < 5) : mA s 4 n = Int32.ofNat (bsM s n) := bs_eq (mi.2.1 n hn).2.2.1
theorem mi_5 {B W : Nat} (mi : MI s g B K W) (hn : n < 5) : mA s 5 n = Int32.ofNat (lsM s n) := ls_eq (mi.2.1 n hn).2.2.2.1
theorem mi_2 {B W : Nat} (mi : MI s g B K W) (hn : n < 5) : mA s 2 n = Int32.ofNat (tmM s n) := tm_eq (mi.2.1 n hn).2.1
theorem mi_6 {B W : Nat} (mi : MI s g B K W) (hn : n < 5) (hu : mA s 1 n = 1) : mA s 6 n = Int32.ofNat (cmM s n) := by
  have : cmM s n = (mA s 6 n).toNatClampNeg := by unfold cmM; rw [hu, if_neg (by decide)]
  rw [this]; exact io_of (mi.2.1 n hn).2.2.2.2.1
theorem lg_0 {i : Nat} (hi : i ≤ 1200) : lgM s n i 0 = mA s 13 ((n * 1201 + i) * 8) := by
  unfold lgM; rw [if_pos ⟨hi, by decide⟩]; rfl
theorem bd2_some {α β : Type} (v : α) (h : Hp) (k : α → Hp → Option β) : bd2 (some (v, h)) k = k v h := rfl
theorem bdx_inl {α β : Type} (v : α) (h : Hp) (k : α → Hp → Option ((β ⊕ Nat) × Hp)) : bdx (some (.inl v, h)) k = k v h := rfl
theorem bdx_inr {α β : Type} (e : Nat) (h : Hp) (k : α → Hp → Option ((β ⊕ Nat) × Hp)) : bdx (some (.inr e, h)) k = some (.inr e, h) := rfl
theorem onR_id (z : Option Nat) (h : Hp) : onR z (some ((none : Option Nat), h)) (fun a => some (some a, h)) = some (z, h) := by cases z <;> rfl
theorem i32_nn {x y : Int32} (h : 0 ≤ x) (k : x < y) : 0 ≤ y := Int32.le_iff_toInt_le.mpr (Int.le_trans (Int32.le_iff_toInt_le.mp h) (Int.le_of_lt (Int32.lt_iff_toInt_lt.mp k)))
theorem c_entryAt {B W : Nat} (w : RX X M h s g K) (mi : MI s g B K W) (hn : n < 5) (hB : B ≤ 1200) (x : Int32) : fX1_entryAt (ndA X n + 13) x h = some (if x ≤ mA s 4 n ∨ mA s 5 n < x then none else aR h (ndA X n + 14) x.toNatClampNeg, h) := by
  obtain ⟨q, y, T, e1, e0, e2, e3⟩ := q_snap w hn
  have lsB := mi_ls mi n
  unfold fX1_entryAt
  rw [e1, bd_some, onR_some, sv_b e3, bd_some]
  by_cases z : x ≤ mA s 4 n
  · rw [if_pos z, if_pos (Or.inl z)]
  · rw [if_neg z, q_last w hn, bd_some]
    by_cases z2 : mA s 5 n < x
    · rw [if_pos z2, if_pos (Or.inr z2)]
    · rw [if_neg z2, if_neg (fun q => q.elim z z2), q_ents w hn, bd_some, onR_some, lnA_k (q_k14 w hn), bd_some]
      obtain ⟨j, hj, rfl⟩ : ∃ j, j < 2147483648 ∧ x = Int32.ofNat j := ⟨_, Int32.toNatClampNeg_lt x, io_of (i32_nn (mi.2.1 n hn).2.2.1 (Int32.not_le.mp z))⟩
      have xl : j ≤ lsM s n := by
        have := Int32.not_lt.mp z2
        rw [mi_5 mi hn, io_le (by omega) (by omega)] at this
        exact this
      rw [if_pos (by rw [io_lt (by omega) (by omega)]; omega), bd_some, onR_some, ldR_k (q_k14 w hn) (by omega) (by decide), bd_some, onR_id, io_cl (by omega)]
theorem c_termAt {B W : Nat} (w : RX X M h s g K) (mi : MI s g B K W) (hn : n < 5) (hB : B ≤ 1200) (x : Int32) : fX1_termAt (ndA X n + 13) x h = some (if mA s 4 n ≤ x ∧ x ≤ mA s 5 n then lgM s n x.toNatClampNeg 0 else -1, h) := by
  obtain ⟨q, y, T, e1, e0, e2, e3⟩ := q_snap w hn
  have lsB := mi_ls mi n
  have b4 := mi_4 mi hn
  have b5 := mi_5 mi hn
  have bl := Nat.le_trans (mi_cm mi n).2.1 (mi_cm mi n).1
  unfold fX1_termAt
  rw [e1, bd_some, onR_some, sv_b e3, bd_some]
  by_cases z : x = mA s 4 n
  · rw [if_pos z, bd_some, onR_some, sv_t e3, bd_some, mi_base mi e0 e2, z, b4, b5, if_pos (by rw [io_le (by omega) (by omega), io_le (by omega) (by omega)]; exact ⟨Nat.le_refl _, bl⟩), io_cl (by omega)]
  · rw [if_neg z, if_pos (q_k1 w hn), c_entryAt w mi hn hB, bd2_some]
    by_cases z2 : x ≤ mA s 4 n ∨ mA s 5 n < x
    · rw [if_pos z2, if_neg]
      · rfl
      · intro u
        rcases z2 with z2 | z2
        · exact z (Int32.le_antisymm z2 u.1)
        · exact Int32.not_lt.mpr u.2 z2
    · have z3 : ¬ x ≤ mA s 4 n := fun q => z2 (Or.inl q)
      have z4 : ¬ mA s 5 n < x := fun q => z2 (Or.inr q)
      have z5 := Int32.not_le.mp z3
      have z6 := Int32.not_lt.mp z4
      rw [if_neg z2, if_pos ⟨Int32.le_of_lt z5, z6⟩]
      have x0 : x = Int32.ofNat x.toNatClampNeg := io_of (i32_nn (mi.2.1 n hn).2.2.1 z5)
      have tl := Int32.toNatClampNeg_lt x
      rw [x0, b4, io_lt (by omega) (by omega)] at z5
      rw [x0, b5, io_le (by omega) (by omega)] at z6
      obtain ⟨e, e4, e5⟩ := (rx_n w hn).2.2.1.2 _ z5 z6
      rw [e4, onR_some, gI_k e5.2.1, bd_some, e5.2.2.1]
theorem c_termN {B W : Nat} (w : RX X M h s g K) (mi : MI s g B K W) (hn : n < 5) (hB : B ≤ 1200) {i : Nat} (hi : i < 100000) : fX1_termAt (ndA X n + 13) (Int32.ofNat i) h = some (if bsM s n ≤ i ∧ i ≤ lsM s n then lgM s n i 0 else -1, h) := by
  have lsB := mi_ls mi n
  have bl := Nat.le_trans (mi_cm mi n).2.1 (mi_cm mi n).1
  rw [c_termAt w mi hn hB, mi_4 mi hn, mi_5 mi hn]
  simp (disch := omega) only [io_le, io_cl]
end
