/-! ===== an APPEND ===== -/
def apT (k n m e : Int32) (s : MS) : Option (Unit × MS) := bd (ldA s 11 6 n) fun z2 => bd (ldA s 11 22 k) fun z3 => bd (stA s 11 6 n (mx z2 (mn z3 e))) fun s4 => bd (ldA s4 11 4 n) fun z5 => bdm (gX10_answer (3 : Int32) n m (mx e z5) s4) fun _ s6 => some ((), s6)
section
variable {X M : Nat} {g : GH} {B K W n m q k p c : Nat}
theorem crM_0 {s : MS} {k i : Nat} : crM s k i 0 = mA s 23 ((k * 4 + i) * 8) := by unfold crM; rw [if_pos (by decide)]; rfl
/-- the class steps over what lies up to BASE -/
theorem c_skip {h : Hp} {s : MS} (w : RX X M h s g K) (mi : MI s g B K W) (a : MQq X M h s g K q k m) (hn : n < 5) (hB : B ≤ 1200) (h15 : mA s 15 k = 2) (h19 : mA s 19 k = Int32.ofNat p) (h21 : mA s 21 k = Int32.ofNat c) (hc : c ≤ 4) (hp : p ≤ 1200) {i f : Nat} (hi : i < c) (hb : p + 1 + i ≤ bsM s n) : fX5_keepEntries_2 (f + 1) (ndA X n) q (mA s 4 n) (Int32.ofNat i) h = fX5_keepEntries_2 f (ndA X n) q (mA s 4 n) (Int32.ofNat (i + 1)) h := by
  obtain ⟨r, c', r1, r2, r3, r4, r5, r6⟩ := a.2.1.2.1 h15
  have lsB := mi_ls mi n
  have bl := Nat.le_trans (mi_cm mi n).2.1 (mi_cm mi n).1
  have cc' : c' = c := by rw [h21, io_eq (by omega) (by omega)] at r4; exact r4.symm
  subst cc'
  have ec : fX4_entryCount q h = some (Int32.ofNat c', h) := by
    unfold fX4_entryCount
    rw [gR_k (mq_k a), r1, bd_some, onR_some, bd_some, onR_some, lnA_k r3, bd_some]
  obtain ⟨e, e1, e2⟩ := r6 i hi
  have e0 : fX5_keepEntries_2 (f + 1) (ndA X n) q (mA s 4 n) (Int32.ofNat i) h = fX5_keepEntries_2_body (fX5_keepEntries_2 f) (ndA X n) q (mA s 4 n) (Int32.ofNat i) h := rfl
  rw [e0]
  unfold fX5_keepEntries_2_body fX5_keepEntries_79
  rw [if_pos (mq_k a), ec, bd2_some, if_neg (by rw [io_le (by omega) (by omega)]; omega), mq_4 a, bd_some, h19, gR_k (mq_k a), r1, bd_some, onR_some, ldR_k r3 hi (by omega), bd_some, e1, onR_some, io_a1, io_ad, if_pos (by rw [mi_4 mi hn, io_le (by omega) (by omega)]; omega), io_a1]
theorem j_keep (hn : n < 5) (hm : m < 5) (hnm : n ≠ m) (hB : B ≤ 1200) (hK' : K < 3000) (hc : c ≤ 4) {T : Nat} (hd : gD g T ≠ 0) (hcr : p + c ≤ gW g T) : ∀ (d i f f' : Nat) (h : Hp) (s : MS), i + d = c → d < f → d < f' → RX X M h s g K → MI s g B K W → MQq X M h s g K q k m → mA s 15 k = 2 → mA s 19 k = Int32.ofNat p → mA s 21 k = Int32.ofNat c → tmM s n = T → mA s 1 n = 1 → mA s 8 n = 0 → (bsM s n ≤ p + i ∨ d = 0) → (∀ j, j < c → crM s k j = gE g T (p + 1 + j)) → (d ≠ 0 → p + i ≤ lsM s n ∧ Ag (lgM s n) (gE g T) (p + i)) → ∃ h' s', CC X n h h' ∧ RX X M h' s' g K ∧ MI s' g B K W ∧ EX n s s' ∧ (∀ x j, 15 ≤ x → x ≤ 25 → mA s' x j = mA s x j) ∧ ((fX5_keepEntries_2 f (ndA X n) q (mA s 4 n) (Int32.ofNat i) h = some (0, h') ∧ gX10_appends_152 f' (Int32.ofNat k) (Int32.ofNat n) (Int32.ofNat m) (Int32.ofNat (p + i)) (Int32.ofNat i) s = some ((), s')) ∨ (fX5_keepEntries_2 f (ndA X n) q (mA s 4 n) (Int32.ofNat i) h = some (1, h') ∧ gX10_appends_152 f' (Int32.ofNat k) (Int32.ofNat n) (Int32.ofNat m) (Int32.ofNat (p + i)) (Int32.ofNat i) s = apT (Int32.ofNat k) (Int32.ofNat n) (Int32.ofNat m) (Int32.ofNat (p + c)) s' ∧ tmM s' n = T ∧ mA s' 1 n = 1 ∧ mA s' 8 n = 0 ∧ mA s' 4 n = mA s 4 n ∧ mA s' 6 n = mA s 6 n ∧ (d ≠ 0 → p + c ≤ lsM s' n ∧ Ag (lgM s' n) (gE g T) (p + c)) ∧ (d = 0 → s' = s))) := by
  intro d
  induction d with
  | zero =>
    intro i f f' h s h0 hf hf' w mi a h15 h19 h21 ht hu h8 hb hj hA
    obtain ⟨f, rfl⟩ : ∃ g, f = g + 1 := ⟨f - 1, by omega⟩
    obtain ⟨f', rfl⟩ : ∃ g, f' = g + 1 := ⟨f' - 1, by omega⟩
    have e : i = c := by omega
    subst e
    have hk : k < 3000 := by have := a.1; omega
    obtain ⟨r, c', r1, r2, r3, r4, r5, r6⟩ := a.2.1.2.1 h15
    have cc' : c' = i := by rw [h21, io_eq (by omega) (by omega)] at r4; exact r4.symm
    subst cc'
    have ec : fX4_entryCount q h = some (Int32.ofNat c', h) := by
      unfold fX4_entryCount
      rw [gR_k (mq_k a), r1, bd_some, onR_some, bd_some, onR_some, lnA_k r3, bd_some]
    refine ⟨h, s, cc_refl X n h, w, mi, ex_refl n s, fun _ _ _ _ => rfl, Or.inr ⟨?_, ?_, ht, hu, h8, rfl, rfl, fun q => absurd rfl q, fun _ => rfl⟩⟩
    · have e0 : fX5_keepEntries_2 (f + 1) (ndA X n) q (mA s 4 n) (Int32.ofNat c') h = fX5_keepEntries_2_body (fX5_keepEntries_2 f) (ndA X n) q (mA s 4 n) (Int32.ofNat c') h := rfl
      rw [e0]
      unfold fX5_keepEntries_2_body
      rw [if_pos (mq_k a), ec, bd2_some, if_pos (Int32.le_refl _)]
    · have e0 : gX10_appends_152 (f' + 1) (Int32.ofNat k) (Int32.ofNat n) (Int32.ofNat m) (Int32.ofNat (p + c')) (Int32.ofNat c') s = gX10_appends_152_body (gX10_appends_152 f') (Int32.ofNat k) (Int32.ofNat n) (Int32.ofNat m) (Int32.ofNat (p + c')) (Int32.ofNat c') s := rfl
      rw [e0]
      unfold gX10_appends_152_body apT
      rw [ld_21 hk, bd_some, h21, if_pos (Int32.le_refl _)]
  | succ d ih =>
    intro i f f' h s h0 hf hf' w mi a h15 h19 h21 ht hu h8 hb hj hA
    obtain ⟨f, rfl⟩ : ∃ g, f = g + 1 := ⟨f - 1, by omega⟩
    obtain ⟨f', rfl⟩ : ∃ g, f' = g + 1 := ⟨f' - 1, by omega⟩
    have hk : k < 3000 := by have := a.1; omega
    have lsB := mi_ls mi n
    have gWB : gW g T ≤ B := mi.2.2.2.1 T
    obtain ⟨A1, A2⟩ := hA (by omega)
    have bl := Nat.le_trans (mi_cm mi n).2.1 (mi_cm mi n).1
    obtain ⟨r, c', r1, r2, r3, r4, r5, r6⟩ := a.2.1.2.1 h15
    have cc' : c' = c := by rw [h21, io_eq (by omega) (by omega)] at r4; exact r4.symm
    subst cc'
    have ec : fX4_entryCount q h = some (Int32.ofNat c', h) := by
      unfold fX4_entryCount
      rw [gR_k (mq_k a), r1, bd_some, onR_some, bd_some, onR_some, lnA_k r3, bd_some]
    obtain ⟨e, e1, e2⟩ := r6 i (by omega)
    have en : 0 ≤ gE g T (p + 1 + i) 0 := (mi.2.2.2.2.2.2.2.2.2 T (p + 1 + i) (by omega) (by omega)).1
    have cl : fX5_keepEntries_2 (f + 1) (ndA X n) q (mA s 4 n) (Int32.ofNat i) h = fX5_keepEntries_2_body (fX5_keepEntries_2 f) (ndA X n) q (mA s 4 n) (Int32.ofNat i) h := rfl
    have cg : gX10_appends_152 (f' + 1) (Int32.ofNat k) (Int32.ofNat n) (Int32.ofNat m) (Int32.ofNat (p + i)) (Int32.ofNat i) s = gX10_appends_152_body (gX10_appends_152 f') (Int32.ofNat k) (Int32.ofNat n) (Int32.ofNat m) (Int32.ofNat (p + i)) (Int32.ofNat i) s := rfl
    rw [cl, cg]
    have tA := c_termN w mi hn hB (i := p + 1 + i) (by omega)
    have eT : gI h 2 0 e = some (gE g T (p + 1 + i) 0) := by rw [gI_k e2.2.1, e2.2.2.1, hj i (by omega)]
    have row0 : mA s 23 ((k * 4 + i) * 8) = gE g T (p + 1 + i) 0 := by rw [← crM_0, hj i (by omega)]
    have ei : p + i + 1 = p + 1 + i := by omega
    have skip : (p + 1 + i ≤ lsM s n ∧ lgM s n (p + 1 + i) 0 = gE g T (p + 1 + i) 0) → Ag (lgM s n) (gE g T) (p + 1 + i) := fun z => by
      have q1 := mi.1.2.2.2.1 n (p + 1 + i) (by omega) z.1
      have q2 := mi.1.2.2.2.2.1 T (p + 1 + i) (by omega) (by omega)
      exact lm_eq (te := teM) q1 q2 (by show (lgM s n (p + 1 + i) 0).toNatClampNeg = (gE g T (p + 1 + i) 0).toNatClampNeg; rw [z.2])
    have unf1 : fX5_keepEntries_2_body (fX5_keepEntries_2 f) (ndA X n) q (mA s 4 n) (Int32.ofNat i) h = if (if bsM s n ≤ p + 1 + i ∧ p + 1 + i ≤ lsM s n then lgM s n (p + 1 + i) 0 else -1) = gE g T (p + 1 + i) 0 then fX5_keepEntries_2 f (ndA X n) q (mA s 4 n) (Int32.ofNat (i + 1)) h else (bd2 (fX1_recordEntry (ndA X n + 13) (Int32.ofNat (p + 1 + i)) e h) fun z16 h16 => if hK h16 (ndA X n) = some (5, 0) then (bd2 (fX5_survives (ndA X n) z16 h16) fun z17 h17 => if z17 = 0 then (some ((0 : Int32), h17)) else (fX5_keepEntries_2 f (ndA X n) q (mA s 4 n) (Int32.ofNat (i + 1)) h17)) else none) := by
      unfold fX5_keepEntries_2_body fX5_keepEntries_79
      have nb : ¬ Int32.ofNat (p + 1 + i) ≤ mA s 4 n := by rw [mi_4 mi hn, io_le (by omega) (by omega)]; omega
      simp only [if_pos (mq_k a), ec, bd2_some, if_neg (show ¬ Int32.ofNat c' ≤ Int32.ofNat i by rw [io_le (by omega) (by omega)]; omega), mq_4 a, bd_some, h19, gR_k (mq_k a), r1, onR_some, ldR_k r3 (show i < c' by omega) (by omega), e1, io_a1, io_ad, if_neg nb, q_disk w hn, if_pos (q_k1 w hn), tA, eT]
    have unf2 : gX10_appends_152_body (gX10_appends_152 f') (Int32.ofNat k) (Int32.ofNat n) (Int32.ofNat m) (Int32.ofNat (p + i)) (Int32.ofNat i) s = if p + 1 + i ≤ lsM s n ∧ lgM s n (p + 1 + i) 0 = gE g T (p + 1 + i) 0 then gX10_appends_152 f' (Int32.ofNat k) (Int32.ofNat n) (Int32.ofNat m) (Int32.ofNat (p + (i + 1))) (Int32.ofNat (i + 1)) s else (bdm (gX10_comes (Int32.ofNat n) (Int32.ofNat (p + 1 + i)) 23 (Int32.ofNat ((k * 4 + i) * 8)) s) fun z1 s1 => if z1 = 0 then (some ((), s1)) else (gX10_appends_152 f' (Int32.ofNat k) (Int32.ofNat n) (Int32.ofNat m) (Int32.ofNat (p + (i + 1))) (Int32.ofNat (i + 1)) s1)) := by
      unfold gX10_appends_152_body gX10_appends_208 gX10_appends_225
      simp only [ld_21 hk, bd_some, h21, if_neg (show ¬ Int32.ofNat c' ≤ Int32.ofNat i by rw [io_le (by omega) (by omega)]; omega), ld_5 hn, mi_5 mi hn, io_a1, io_m4, io_ad, io_m8, ei, show p + (i + 1) = p + 1 + i by omega]
      by_cases z : lsM s n < p + 1 + i
      · rw [if_pos (by rw [io_lt (by omega) (by omega)]; exact z), if_neg (by omega)]
      · rw [if_neg (by rw [io_lt (by omega) (by omega)]; exact z), g_termAt hn (by omega), bdm_some, ld_23 (by omega), bd_some, ← lg_0 (by omega), row0]
        by_cases z2 : lgM s n (p + 1 + i) 0 = gE g T (p + 1 + i) 0
        · rw [if_pos z2, if_pos ⟨by omega, z2⟩]
        · rw [if_neg z2, if_neg (fun q => z2 q.2)]
    rw [unf1, unf2]
    have bp : bsM s n ≤ p + 1 + i := by omega
    by_cases z : p + 1 + i ≤ lsM s n ∧ lgM s n (p + 1 + i) 0 = gE g T (p + 1 + i) 0
    · rw [if_pos z, if_pos (by rw [if_pos ⟨bp, z.1⟩]; exact z.2)]
      obtain ⟨h', s', g1, g2, g3, g4, g5, g6⟩ := ih (i + 1) f f' h s (by omega) (by omega) (by omega) w mi a h15 h19 h21 ht hu h8 (by omega) hj (fun _ => by rw [show p + (i + 1) = p + 1 + i by omega]; exact ⟨z.1, skip z⟩)
      refine ⟨h', s', g1, g2, g3, g4, g5, g6.imp id (fun q => ⟨q.1, q.2.1, q.2.2.1, q.2.2.2.1, q.2.2.2.2.1, q.2.2.2.2.2.1, q.2.2.2.2.2.2.1, fun _ => ?_, fun z => by omega⟩)⟩
      by_cases dd : d = 0
      · rw [q.2.2.2.2.2.2.2.2 dd, show p + c' = p + 1 + i by omega]; exact ⟨z.1, skip z⟩
      · exact q.2.2.2.2.2.2.2.1 dd
    · have nz : ¬ (if bsM s n ≤ p + 1 + i ∧ p + 1 + i ≤ lsM s n then lgM s n (p + 1 + i) 0 else -1) = gE g T (p + 1 + i) 0 := by
        by_cases y : bsM s n ≤ p + 1 + i ∧ p + 1 + i ≤ lsM s n
        · rw [if_pos y]; exact fun q => z ⟨y.2, q⟩
        · rw [if_neg y]; intro q; rw [← q] at en; exact absurd en (by decide)
      rw [if_neg z, if_neg nz, c_take w hn (by omega) (by omega) e2.2.1, g_comes hn (by omega) (Or.inr ⟨rfl, by omega⟩)]
      by_cases pw : mA s 10 n = 0
      · rw [if_pos pw, if_pos pw, if_pos rfl, bdm_some, if_pos rfl]
        refine ⟨_, _, cc_down hn rfl, rx_down w hn, mi_down mi hn, ex_oD, fun x j h1 h2 => ?_, Or.inl ⟨rfl, rfl⟩⟩
        unfold oD; rw [mA_k _ _ _ _ (by omega), mA_k _ _ _ _ (by omega), mA_k _ _ _ _ (by omega)]
      · rw [if_neg pw, if_neg pw, if_neg (by decide), bdm_some, if_neg (by decide)]
        have rowe : rw8 (fun j => mA (oP n s) 23 ((k * 4 + i) * 8 + j)) = gE g T (p + 1 + i) := by
          rw [← hj i (by omega)]
          funext j
          unfold rw8 crM
          by_cases y : j < 8
          · rw [if_pos y, if_pos y]; exact mA_oP _ _ _ (by decide)
          · rw [if_neg y, if_neg y]
        have w1 := rx_pow w hn
        have m1 := mi_pow n mi
        have ce : CC X n h (cEn (cP h (ndA X n + 13)) (ndA X n) (p + 1 + i) e) := cc_en hn
        have ev1 : EV X M (cP h (ndA X n + 13)) e (rw8 (fun j => mA (oP n s) 23 ((k * 4 + i) * 8 + j))) := by
          rw [rowe, ← hj i (by omega)]
          exact ev_fr (fr_ch (P := PNd X n) (ch_cP (by unfold PNd; omega)) (fun a q => by have := rx_M w; unfold PNd ndA at q; omega)) e2
        have w2 := rx_entry (idx := p + 1 + i) (q := e) w1 hn (by omega) (by rw [oP_ls]; omega) ev1
        have m2 : MI (oE n (p + 1 + i) (fun j => mA (oP n s) 23 ((k * 4 + i) * 8 + j)) (oP n s)) g B K W := by
          refine mi_take m1 hn (by rw [mA_oP _ _ _ (by decide)]; exact h8) (by rw [oP_tm, ht]; exact hd) (by omega) (by rw [oP_tm, ht]; omega) hB (fun j hj => ?_) (by rw [oP_tm, ht]; exact rowe) ?_
          · rw [oP_tm, ht, oP_lg]; exact A2 j (by omega)
          · rw [oP_ls, oP_tm, ht, oP_lg]
            by_cases y : lsM s n < p + 1 + i
            · exact Or.inl y
            · refine Or.inr (fun q => z ⟨by omega, ?_⟩)
              exact (te_iff (mi_nn mi n _ (by omega)) en).mpr q
        have nx : NX n s (oE n (p + 1 + i) (fun j => mA (oP n s) 23 ((k * 4 + i) * 8 + j)) (oP n s)) := nx_trans nx_oP (nx_oE (by omega))
        have a2 := mq_nx (s' := oE n (p + 1 + i) (fun j => mA (oP n s) 23 ((k * 4 + i) * 8 + j)) (oP n s)) a ce hn (rx_M w) (gle_refl g) nx.2.2.2.1
        have xx : ∀ x j, x ≠ 13 → x ≠ 5 → x ≠ 10 → mA (oE n (p + 1 + i) (fun j => mA (oP n s) 23 ((k * 4 + i) * 8 + j)) (oP n s)) x j = mA s x j := fun x j h1 h2 h3 => by rw [mA_oEx _ _ _ h1 (Or.inl h2), mA_oP _ _ _ h3]
        have l2 : lsM (oE n (p + 1 + i) (fun j => mA (oP n s) 23 ((k * 4 + i) * 8 + j)) (oP n s)) n = p + 1 + i := by rw [ls_oE (by omega), up1_eq]
        have ag2 : Ag (lgM (oE n (p + 1 + i) (fun j => mA (oP n s) 23 ((k * 4 + i) * 8 + j)) (oP n s)) n) (gE g T) (p + 1 + i) := fun j hj' => by
          rw [lg_oE (by omega)]
          by_cases y : j = p + 1 + i
          · subst y; rw [up2_eq]; exact rowe
          · rw [up2_n2 _ _ _ y, oP_lg]; exact A2 j (by omega)
        have b2 : bsM (oE n (p + 1 + i) (fun j => mA (oP n s) 23 ((k * 4 + i) * 8 + j)) (oP n s)) n = bsM s n := by unfold bsM; rw [xx 4 n (by decide) (by decide) (by decide)]
        have t2 : tmM (oE n (p + 1 + i) (fun j => mA (oP n s) 23 ((k * 4 + i) * 8 + j)) (oP n s)) n = T := by rw [← ht]; unfold tmM; rw [xx 2 n (by decide) (by decide) (by decide)]
        have ex2 : EX n s (oE n (p + 1 + i) (fun j => mA (oP n s) 23 ((k * 4 + i) * 8 + j)) (oP n s)) := ex_trans ex_oP ex_oE
        generalize oE n (p + 1 + i) (fun j => mA (oP n s) 23 ((k * 4 + i) * 8 + j)) (oP n s) = s2 at *
        generalize cEn (cP h (ndA X n + 13)) (ndA X n) (p + 1 + i) e = h2 at *
        have x4 : mA s2 4 n = mA s 4 n := xx 4 n (by decide) (by decide) (by decide)
        obtain ⟨h', s', g1, g2, g3, g4, g5, g6⟩ := ih (i + 1) f f' h2 s2 (by omega) (by omega) (by omega) w2 m2 a2 (by rw [xx 15 k (by decide) (by decide) (by decide)]; exact h15) (by rw [xx 19 k (by decide) (by decide) (by decide)]; exact h19) (by rw [xx 21 k (by decide) (by decide) (by decide)]; exact h21) t2 (by rw [xx 1 n (by decide) (by decide) (by decide)]; exact hu) (by rw [xx 8 n (by decide) (by decide) (by decide)]; exact h8) (by rw [b2]; omega) (fun j hj' => by unfold crM; rw [← hj j hj']; funext y; unfold crM; rw [xx 23 _ (by decide) (by decide) (by decide)]) (fun _ => by rw [show p + (i + 1) = p + 1 + i by omega, l2]; exact ⟨Nat.le_refl _, ag2⟩)
        rw [x4] at g6
        refine ⟨h', s', cc_trans ce g1, g2, g3, ex_trans ex2 g4, fun x j h1 h2 => (g5 x j h1 h2).trans (xx x j (by omega) (by omega) (by omega)), g6.imp id (fun q => ⟨q.1, q.2.1, q.2.2.1, q.2.2.2.1, q.2.2.2.2.1, q.2.2.2.2.2.1, q.2.2.2.2.2.2.1.trans (xx 6 n (by decide) (by decide) (by decide)), fun _ => ?_, fun z => by omega⟩)⟩
        by_cases dd : d = 0
        · rw [q.2.2.2.2.2.2.2.2 dd, show p + c' = p + 1 + i by omega, l2]; exact ⟨Nat.le_refl _, ag2⟩
        · exact q.2.2.2.2.2.2.2.1 dd
end
