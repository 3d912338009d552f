/-! ===== messages, check, message, entry, propose ===== -/
theorem l_87 {y : Int32} : y < (8 : Int32) ↔ y ≤ (7 : Int32) := by
  rw [Int32.lt_iff_toInt_lt, Int32.le_iff_toInt_le, show (8 : Int32).toInt = 8 from rfl, show (7 : Int32).toInt = 7 from rfl]
  omega
def msV (s : MS) (k : Nat) (y : Int32) : Int32 := if y = 0 then mA s 15 k else if y = 1 then mA s 16 k else if y = 2 then mA s 17 k else if y = 3 then mA s 18 k else if y = 4 then mA s 19 k else if y = 5 then mA s 20 k else if y = 6 then mA s 21 k else mA s 22 k
section
variable {X M j : Nat} {h : Hp} {s : MS} {g : GH} {B K W n : Nat}
theorem law_messages (J : JJ X M j h) : OKg (JJ X M (j + 1)) X M h (fX9_messages X) (fX10_messages M) := by
  obtain ⟨s, kp, fn⟩ := J
  have fn := fn_up fn
  obtain ⟨g, K, W, w, mi, ca, ap, hk⟩ := fn_F (v := 0) fn
  refine ok_g (h1 := h) (s' := uF s 0 0) (v := mF (uF s 0 0) 24) (q_kX w) ?_ (fun H hw => eX10_messages hw s) rfl kp (fn_F fn)
  unfold fX9_messages
  rw [q_xmail w, bd_some, onR_some, q_count w, bd_some]
theorem law_check (J : JJ X M j h) : OKg (JJ X M (j + 1)) X M h (fX9_check X) (fX10_check M) := by
  obtain ⟨s, kp, fn⟩ := J
  have fn := fn_up fn
  obtain ⟨g, K, W, w, mi, ca, ap, hk⟩ := fn_F (v := 0) fn
  refine ok_g (h1 := h) (s' := uF s 0 0) (v := 0) (q_kX w) ?_ (fun H hw => eX10_check hw s) rfl kp (fn_F fn)
  unfold fX9_check
  rw [q_xwit w, bd_some, onR_some, q_wrong w, bd_some]
theorem c_cnt {q k m : Nat} (a : MQq X M h s g K q k m) : fX4_entryCount q h = some (mA s 21 k, h) := by
  unfold fX4_entryCount
  by_cases z : mA s 15 k = 2
  · obtain ⟨r, c, r1, r2, r3, r4, r5, r6⟩ := a.2.1.2.1 z
    rw [gR_k (mq_k a), r1, bd_some, onR_some, bd_some, onR_some, lnA_k r3, bd_some, r4]
  · obtain ⟨r1, r2⟩ := a.2.1.2.2.1 z
    rw [gR_k (mq_k a), r1, bd_some, r2]
    rfl
theorem c_mfield {q k m : Nat} {y : Int32} (a : MQq X M h s g K q k m) : fX4_field q y h = some (msV s k y, h) := by
  have t2 : gI h 4 2 q = some (mA s 17 k) := by rw [gI_k (mq_k a), a.2.1.1.2.2.2.2.1]
  unfold fX4_field msV
  simp only [mq_0 a, mq_1 a, t2, mq_3 a, mq_4 a, mq_5 a, mq_7 a, bd_some, if_pos (mq_k a), c_cnt a, bd2_some, a.2.2]
  repeat' split
  all_goals rfl
theorem law_message (hj : j < 64) (J : JJ X M j h) (x y : Int32) : OKi (JJ X M (j + 1)) M (M + 39) h (fL_message X x y (M + 39)) (fX10_message M x y) := by
  obtain ⟨s, kp, g, K, W, w, mi0, ca, ap, hk⟩ := J
  have mi := mi_B (Nat.le_succ j) mi0
  have fn : FN X M (j + 1) h s := ⟨g, K, W, w, mi, ca, ap, by omega⟩
  have er : ∀ H, MW M H → fX10_message M x y (pm M H s) = lft M H (gX10_message x y s) := fun H hw => eX10_message hw x y s
  have m24 := mi_24 mi
  rcases ms_cs (x := x) (show K ≤ 3000 by omega) with z | ⟨k, hkK, rfl⟩
  · refine ok_i (k := 1) (h1 := h) (s' := uF s 0 1) (b := 0) ?_ er ?_ mF_h0 (fun q => absurd q (by decide)) kp (fn_F fn)
    · unfold fL_message fX9_message
      rw [if_pos (q_kX w), if_pos (q_kX w), c_msgNo w (by rw [m24]; exact z), bdx_inr, bdc_inr, if_pos rfl]
    · unfold gX10_message gX10_message_13 gX10_message_18 rdF
      by_cases z1 : x < 0
      · rw [if_pos z1, g_bad1, bdm_some, if_neg (by decide)]
      · rw [if_neg z1, bd_some, m24, if_neg (Int32.not_lt.mpr (z.resolve_left z1)), g_bad1, bdm_some, if_neg (by decide)]
  · have hk3 : k < 3000 := by omega
    obtain ⟨q, hq, mv⟩ := w.2.2.1.2.2 k hkK
    obtain ⟨t, f, n, T, e1, e2, e3, e4, hf, hn, hfn, e8, mb⟩ := mi.2.2.2.2.2.2.2.2.1 k hkK
    have a : MQq X M h s g K q k f := ⟨hkK, mv, e2⟩
    have r24 : rdF s 24 = some (Int32.ofNat K) := congrArg some m24
    have no : (y < 0 ∨ ¬ y ≤ (7 : Int32)) → OKi (JJ X M (j + 1)) M (M + 39) h (fL_message X (Int32.ofNat k) y (M + 39)) (fX10_message M (Int32.ofNat k) y) := by
      intro z
      refine ok_i (k := 2) (h1 := h) (s' := uF (uF s 0 0) 0 2) (b := 0) ?_ er ?_ mF_h0 (fun q => absurd q (by decide)) kp (fn_F (fn_F fn))
      · unfold fL_message fX9_message fX9_message_16
        rw [if_pos (q_kX w), if_pos (q_kX w), c_msgAt w m24 (by omega) hkK hq, bdx_inl, onR_some]
        by_cases u : y < 0
        · rw [if_pos u, bdc_inr, if_neg (by decide), if_pos rfl]
        · rw [if_neg u, if_neg (fun q => (z.resolve_left u) (l_87.mp q)), bdc_inr, if_neg (by decide), if_pos rfl]
      · unfold gX10_message gX10_message_18 gX10_message_36 gX10_message_41
        rw [if_neg (by rw [io_nn (by omega)]; exact id), r24, bd_some, if_pos (by rw [io_lt (by omega) (by omega)]; omega), g_bad0, bdm_some, if_pos rfl]
        by_cases u : y < 0
        · rw [if_pos u, g_bad1, bdm_some, if_neg (by decide)]
        · rw [if_neg u, if_neg (z.resolve_left u), g_bad1, bdm_some, if_neg (by decide)]
    by_cases u : y < 0
    · exact no (Or.inl u)
    · by_cases v : y ≤ (7 : Int32)
      · refine ok_iv (h1 := h) (s' := uF (uF s 0 0) 0 0) (b := msV s k y) ?_ er ?_ mF_h0 kp (fn_F (fn_F fn))
        · unfold fL_message fX9_message
          rw [if_pos (q_kX w), if_pos (q_kX w), c_msgAt w m24 (by omega) hkK hq, bdx_inl, onR_some, if_neg u, if_pos (l_87.mpr v), if_pos (mq_k a), c_mfield a, bd2_some, bdc_inl]
        · unfold gX10_message gX10_message_18 gX10_message_41
          rw [if_neg (by rw [io_nn (by omega)]; exact id), r24, bd_some, if_pos (by rw [io_lt (by omega) (by omega)]; omega), g_bad0, bdm_some, if_pos rfl, if_neg u, if_pos v, g_bad0, bdm_some, if_pos rfl]
          unfold msV
          simp only [ld_15 hk3, ld_16 hk3, ld_17 hk3, ld_18 hk3, ld_19 hk3, ld_20 hk3, ld_21 hk3, ld_22 hk3, bd_some, mA_uF]
          repeat' split
          all_goals rfl
      · exact no (Or.inr v)
theorem law_entry (hj : j < 64) (J : JJ X M j h) (x y : Int32) : OKi (JJ X M (j + 1)) M (M + 39) h (fL_entry X x y (M + 39)) (fX10_entry M x y) := by
  obtain ⟨s, kp, g, K, W, w, mi0, ca, ap, hk⟩ := J
  have mi := mi_B (Nat.le_succ j) mi0
  have fn : FN X M (j + 1) h s := ⟨g, K, W, w, mi, ca, ap, by omega⟩
  have er : ∀ H, MW M H → fX10_entry M x y (pm M H s) = lft M H (gX10_entry x y s) := fun H hw => eX10_entry hw x y s
  rcases nd_cs x with z | ⟨n, hn, rfl⟩
  · refine ok_i (k := 1) (h1 := h) (s' := uF s 0 1) (b := 0) ?_ er ?_ mF_h0 (fun q => absurd q (by decide)) kp (fn_F fn)
    · unfold fL_entry fX9_entry
      rw [if_pos (q_kX w), if_pos (q_kX w), c_nodeNo w z, bdx_inr, bdc_inr, if_pos rfl]
    · unfold gX10_entry gX10_entry_13
      rw [g_noN z, bdm_some, if_pos rfl, g_bad1, bdm_some, if_neg (by decide)]
  · have lB := mi_ls mi n
    refine ok_iv (h1 := h) (s' := uF s 0 0) (b := if mA s 4 n ≤ y ∧ y ≤ mA s 5 n then lgM s n y.toNatClampNeg 0 else -1) ?_ er ?_ mF_h0 kp (fn_F fn)
    · unfold fL_entry fX9_entry
      rw [if_pos (q_kX w), if_pos (q_kX w), c_nodeAt w hn, bdx_inl, onR_some, q_disk w hn, bd_some, onR_some, if_pos (q_k1 w hn), c_termAt w mi hn (by omega), bd2_some, bdc_inl]
    · unfold gX10_entry gX10_entry_13 gX10_entry_42
      rw [g_isN hn, bdm_some, if_neg (by decide), g_bad0, bdm_some, if_pos rfl, ld_4 hn, bd_some, ld_5 hn, bd_some, mA_uF, mA_uF]
      by_cases u : y < mA s 4 n
      · rw [if_pos u, if_neg (fun q => (Int32.not_lt.mpr q.1) u)]
      · by_cases v : y ≤ mA s 5 n
        · rw [if_neg u, if_pos v, if_pos ⟨Int32.not_lt.mp u, v⟩]
          have b0 : 0 ≤ mA s 4 n := (mi.2.1 n hn).2.2.1
          have y0 : 0 ≤ y := Int32.le_trans b0 (Int32.not_lt.mp u)
          have yi := io_of y0
          have yl : y.toNatClampNeg ≤ 1200 := by
            rw [yi, mi_5 mi hn, io_le (Int32.toNatClampNeg_lt _) (by omega)] at v
            omega
          generalize y.toNatClampNeg = i at *
          subst yi
          rw [g_termAt hn yl, bdm_some, lg_0 yl]
          rfl
        · rw [if_neg u, if_neg v, if_neg (fun q => v q.2)]
/-! a Command -/
def cCm (h : Hp) (k a b c d e f : Int32) : Hp := sI (sI (sI (sI (sI (sI (sI (nO h 0) (gq 0 0) (hZ h) k) (gq 0 1) (hZ h) a) (gq 0 2) (hZ h) b) (gq 0 3) (hZ h) c) (gq 0 4) (hZ h) d) (gq 0 5) (hZ h) e) (gq 0 6) (hZ h) f
theorem c_cm (k a b c d e f : Int32) : fX0_init (hZ h) k a b c d e f (nO h 0) = some ((), cCm h k a b c d e f) := by
  have kz : hK (nO h 0) (hZ h) = some (0, 0) := by rw [hK_nO, if_pos rfl]
  simp only [fX0_init, pI, hK_sI, kz, if_true, bd_some]
  rfl
theorem ch_cm {k a b c d e f : Int32} : Ch h (cCm h k a b c d e f) (fun _ => False) := ch_sIn (ch_sIn (ch_sIn (ch_sIn (ch_sIn (ch_sIn (ch_sIn ch_nO (Nat.le_refl _)) (Nat.le_refl _)) (Nat.le_refl _)) (Nat.le_refl _)) (Nat.le_refl _)) (Nat.le_refl _)) (Nat.le_refl _)
theorem k_cm {k a b c d e f : Int32} : hK (cCm h k a b c d e f) (hZ h) = some (0, 0) := by
  unfold cCm
  rw [hK_sI, hK_sI, hK_sI, hK_sI, hK_sI, hK_sI, hK_sI, hK_nO, if_pos rfl]
theorem i_cm {k a b c d e f t : Int32} {i : Nat} (hi : i < 7) : hI (cCm h k a b c d e f) (gq 0 i) (hZ h) = ro8 t k a b c d e f (i + 1) := by
  have : i = 0 ∨ i = 1 ∨ i = 2 ∨ i = 3 ∨ i = 4 ∨ i = 5 ∨ i = 6 := by omega
  unfold cCm
  rcases this with e | e | e | e | e | e | e <;> subst e <;> simp [hI_sI, gq] <;> rfl
def lgP (k a b c e : Int32) : Prop := (k = 1 ∧ isK a ∧ 0 ≤ c ∧ c ≤ 8) ∨ (k = 2 ∧ isK a ∧ isK b) ∨ (k = 3 ∧ isK a ∧ isK e ∧ 0 ≤ b ∧ b ≤ 3 ∧ 0 ≤ c ∧ c ≤ 2) ∨ ((k = 4 ∨ k = 5 ∨ k = 6) ∧ 1 ≤ a ∧ a ≤ 8) ∨ k = 7 ∨ k = 8
theorem lg_row {t k a b c d e f : Int32} (ht : 0 ≤ t) (l : lgP k a b c e) : legalE (rw8 (ro8 t k a b c d e f)) := ⟨ht, Or.inr l⟩
theorem ky1 {x : Int32} (z : isK x) : fX9_isKey x h = some (1, h) ∧ gX10_isKey x s = some (1, s) := by
  unfold fX9_isKey gX10_isKey
  rw [if_neg (Int32.not_lt.mpr z.1), if_neg (Int32.not_le.mpr z.2), if_neg (Int32.not_lt.mpr z.1), if_neg (Int32.not_le.mpr z.2)]
  exact ⟨rfl, rfl⟩
theorem ky0 {x : Int32} (z : ¬ isK x) : fX9_isKey x h = some (0, h) ∧ gX10_isKey x s = some (0, s) := by
  unfold fX9_isKey gX10_isKey
  by_cases u : x < 0
  · rw [if_pos u, if_pos u]; exact ⟨rfl, rfl⟩
  · have v : (64 : Int32) ≤ x := Int32.not_lt.mp (fun q => z ⟨Int32.not_lt.mp u, q⟩)
    rw [if_neg u, if_pos v, if_neg u, if_pos v]; exact ⟨rfl, rfl⟩
theorem ls1 {x : Int32} (z : 1 ≤ x ∧ x ≤ 8) : fX9_isLease x h = some (1, h) := by
  unfold fX9_isLease
  rw [if_neg (Int32.not_lt.mpr z.1), if_neg (Int32.not_lt.mpr z.2)]
theorem ls0 {x : Int32} (z : ¬ (1 ≤ x ∧ x ≤ 8)) : fX9_isLease x h = some (0, h) := by
  unfold fX9_isLease
  by_cases u : x < 1
  · rw [if_pos u]
  · rw [if_neg u, if_pos (Int32.not_le.mp (fun q => z ⟨Int32.not_lt.mp u, q⟩))]
theorem c_legal {k a b c d e f : Int32} : ∃ y : Int32, (y = 0 ∨ y = 1) ∧ (y = 1 → lgP k a b c e) ∧ fX0_isLegal (hZ h) (cCm h k a b c d e f) = some (y, cCm h k a b c d e f) ∧ ∀ s, mF s 28 = c → mF s 30 = e → gX10_isRight k a b s = some (y, s) := by
  have g0 : gI (cCm h k a b c d e f) 0 0 (hZ h) = some k := by rw [gI_k k_cm, i_cm (t := 0) (by decide)]; rfl
  have g1 : gI (cCm h k a b c d e f) 0 1 (hZ h) = some a := by rw [gI_k k_cm, i_cm (t := 0) (by decide)]; rfl
  have g2 : gI (cCm h k a b c d e f) 0 2 (hZ h) = some b := by rw [gI_k k_cm, i_cm (t := 0) (by decide)]; rfl
  have g3 : gI (cCm h k a b c d e f) 0 3 (hZ h) = some c := by rw [gI_k k_cm, i_cm (t := 0) (by decide)]; rfl
  have g5 : gI (cCm h k a b c d e f) 0 5 (hZ h) = some e := by rw [gI_k k_cm, i_cm (t := 0) (by decide)]; rfl
  generalize cCm h k a b c d e f = H at *
  have rc : ∀ s, mF s 28 = c → rdF s 28 = some c := fun s hs => congrArg some hs
  have re : ∀ s, mF s 30 = e → rdF s 30 = some e := fun s hs => congrArg some hs
  unfold fX0_isLegal gX10_isRight fX0_isLegal_79 fX0_isLegal_167 gX10_isRight_136 gX10_isRight_165
  simp only [g0, g1, g2, g3, g5, bd_some]
  by_cases k1 : k = 1
  · subst k1
    simp only [if_true]
    by_cases ka : isK a
    · by_cases kc : 0 ≤ c ∧ c ≤ 8
      · refine ⟨1, Or.inr rfl, fun _ => Or.inl ⟨rfl, ka, kc⟩, ?_, fun s h1 h2 => ?_⟩
        · rw [(ky1 (s := pZero) ka).1, bd2_some, if_neg (by decide), g3, bd_some]
          by_cases c0 : c = 0
          · rw [if_pos c0]
          · rw [if_neg c0, bd_some, ls1 ⟨?_, kc.2⟩, bd2_some, if_neg (by decide)]
            rw [Int32.le_iff_toInt_le] at *
            have : c.toInt ≠ 0 := fun q => c0 (Int32.toInt_inj.mp q)
            have h0 : (0 : Int32).toInt = 0 := rfl
            have h1 : (1 : Int32).toInt = 1 := rfl
            have := kc.1
            rw [h0] at this
            rw [h1]
            omega
        · rw [(ky1 (h := h) ka).2, bdm_some, if_neg (by decide), rc s h1, bd_some, if_neg (Int32.not_lt.mpr kc.1), bd_some, if_neg (Int32.not_lt.mpr kc.2)]
      · refine ⟨0, Or.inl rfl, fun q => absurd q (by decide), ?_, fun s h1 h2 => ?_⟩
        · have c0 : ¬ c = 0 := fun q => kc (by rw [q]; decide)
          rw [(ky1 (s := pZero) ka).1, bd2_some, if_neg (by decide), g3, bd_some, if_neg c0, bd_some, ls0 (fun q => kc ⟨Int32.le_trans (by decide) q.1, q.2⟩), bd2_some, if_pos rfl]
        · rw [(ky1 (h := h) ka).2, bdm_some, if_neg (by decide), rc s h1, bd_some]
          by_cases u : c < 0
          · rw [if_pos u]
          · rw [if_neg u, bd_some, if_pos (Int32.not_le.mp (fun q => kc ⟨Int32.not_lt.mp u, q⟩))]
    · refine ⟨0, Or.inl rfl, fun q => absurd q (by decide), ?_, fun s h1 h2 => ?_⟩
      · rw [(ky0 (s := pZero) ka).1, bd2_some, if_pos rfl]
      · rw [(ky0 (h := h) ka).2, bdm_some, if_pos rfl]
  · simp only [if_neg k1]
    by_cases k2 : k = 2
    · subst k2
      simp only [if_true]
      by_cases ka : isK a
      · by_cases kb : isK b
        · refine ⟨1, Or.inr rfl, fun _ => Or.inr (Or.inl ⟨rfl, ka, kb⟩), ?_, fun s h1 h2 => ?_⟩
          · rw [(ky1 (s := pZero) ka).1, bd2_some, if_neg (by decide), g2, bd_some, (ky1 (s := pZero) kb).1, bd2_some, if_neg (by decide)]
          · rw [(ky1 (h := h) ka).2, bdm_some, if_neg (by decide), (ky1 (h := h) kb).2, bdm_some, if_neg (by decide)]
        · refine ⟨0, Or.inl rfl, fun q => absurd q (by decide), ?_, fun s h1 h2 => ?_⟩
          · rw [(ky1 (s := pZero) ka).1, bd2_some, if_neg (by decide), g2, bd_some, (ky0 (s := pZero) kb).1, bd2_some, if_pos rfl]
          · rw [(ky1 (h := h) ka).2, bdm_some, if_neg (by decide), (ky0 (h := h) kb).2, bdm_some, if_pos rfl]
      · refine ⟨0, Or.inl rfl, fun q => absurd q (by decide), ?_, fun s h1 h2 => ?_⟩
        · rw [(ky0 (s := pZero) ka).1, bd2_some, if_pos rfl]
        · rw [(ky0 (h := h) ka).2, bdm_some, if_pos rfl]
    · simp only [if_neg k2]
      by_cases k3 : k = 3
      · subst k3
        simp only [if_true]
        by_cases ka : isK a
        · by_cases ke : isK e
          · by_cases b0 : b < 0
            · refine ⟨0, Or.inl rfl, fun q => absurd q (by decide), ?_, fun s h1 h2 => ?_⟩
              · rw [(ky1 (s := pZero) ka).1, bd2_some, if_neg (by decide), g5, bd_some, (ky1 (s := pZero) ke).1, bd2_some, if_neg (by decide), g2, bd_some, if_pos b0]
              · rw [(ky1 (h := h) ka).2, bdm_some, if_neg (by decide), re s h2, bd_some, (ky1 (h := h) ke).2, bdm_some, if_neg (by decide), if_pos b0]
            · by_cases b3 : (3 : Int32) < b
              · refine ⟨0, Or.inl rfl, fun q => absurd q (by decide), ?_, fun s h1 h2 => ?_⟩
                · rw [(ky1 (s := pZero) ka).1, bd2_some, if_neg (by decide), g5, bd_some, (ky1 (s := pZero) ke).1, bd2_some, if_neg (by decide), g2, bd_some, if_neg b0, bd_some, if_pos b3]
                · rw [(ky1 (h := h) ka).2, bdm_some, if_neg (by decide), re s h2, bd_some, (ky1 (h := h) ke).2, bdm_some, if_neg (by decide), if_neg b0, if_pos b3]
              · by_cases c0 : c < 0
                · refine ⟨0, Or.inl rfl, fun q => absurd q (by decide), ?_, fun s h1 h2 => ?_⟩
                  · rw [(ky1 (s := pZero) ka).1, bd2_some, if_neg (by decide), g5, bd_some, (ky1 (s := pZero) ke).1, bd2_some, if_neg (by decide), g2, bd_some, if_neg b0, bd_some, if_neg b3, g3, bd_some, if_pos c0]
                  · rw [(ky1 (h := h) ka).2, bdm_some, if_neg (by decide), re s h2, bd_some, (ky1 (h := h) ke).2, bdm_some, if_neg (by decide), if_neg b0, if_neg b3, rc s h1, bd_some, if_pos c0]
                · by_cases c2 : (2 : Int32) < c
                  · refine ⟨0, Or.inl rfl, fun q => absurd q (by decide), ?_, fun s h1 h2 => ?_⟩
                    · rw [(ky1 (s := pZero) ka).1, bd2_some, if_neg (by decide), g5, bd_some, (ky1 (s := pZero) ke).1, bd2_some, if_neg (by decide), g2, bd_some, if_neg b0, bd_some, if_neg b3, g3, bd_some, if_neg c0, bd_some, if_pos c2]
                    · rw [(ky1 (h := h) ka).2, bdm_some, if_neg (by decide), re s h2, bd_some, (ky1 (h := h) ke).2, bdm_some, if_neg (by decide), if_neg b0, if_neg b3, rc s h1, bd_some, if_neg c0, bd_some, if_pos c2]
                  · refine ⟨1, Or.inr rfl, fun _ => Or.inr (Or.inr (Or.inl ⟨rfl, ka, ke, Int32.not_lt.mp b0, Int32.not_lt.mp b3, Int32.not_lt.mp c0, Int32.not_lt.mp c2⟩)), ?_, fun s h1 h2 => ?_⟩
                    · rw [(ky1 (s := pZero) ka).1, bd2_some, if_neg (by decide), g5, bd_some, (ky1 (s := pZero) ke).1, bd2_some, if_neg (by decide), g2, bd_some, if_neg b0, bd_some, if_neg b3, g3, bd_some, if_neg c0, bd_some, if_neg c2]
                    · rw [(ky1 (h := h) ka).2, bdm_some, if_neg (by decide), re s h2, bd_some, (ky1 (h := h) ke).2, bdm_some, if_neg (by decide), if_neg b0, if_neg b3, rc s h1, bd_some, if_neg c0, bd_some, if_neg c2]
          · refine ⟨0, Or.inl rfl, fun q => absurd q (by decide), ?_, fun s h1 h2 => ?_⟩
            · rw [(ky1 (s := pZero) ka).1, bd2_some, if_neg (by decide), g5, bd_some, (ky0 (s := pZero) ke).1, bd2_some, if_pos rfl]
            · rw [(ky1 (h := h) ka).2, bdm_some, if_neg (by decide), re s h2, bd_some, (ky0 (h := h) ke).2, bdm_some, if_pos rfl]
        · refine ⟨0, Or.inl rfl, fun q => absurd q (by decide), ?_, fun s h1 h2 => ?_⟩
          · rw [(ky0 (s := pZero) ka).1, bd2_some, if_pos rfl]
          · rw [(ky0 (h := h) ka).2, bdm_some, if_pos rfl]
      · simp only [if_neg k3]
        have lease : ∀ P : Prop, ((1 ≤ a ∧ a ≤ 8) → P) → ∃ y : Int32, (y = 0 ∨ y = 1) ∧ (y = 1 → P) ∧ (bd2 (fX9_isLease a H) fun z2 h2 => if z2 = 0 ∨ z2 = 1 then some (z2, h2) else none) = some (y, H) ∧ ∀ s : MS, mF s 28 = c → mF s 30 = e → (if a < (1 : Int32) then (some ((0 : Int32), s)) else (if (8 : Int32) < a then (some ((0 : Int32), s)) else (some ((1 : Int32), s)))) = some (y, s) := by
          intro P hP
          by_cases l : 1 ≤ a ∧ a ≤ 8
          · refine ⟨1, Or.inr rfl, fun _ => hP l, ?_, fun s _ _ => ?_⟩
            · rw [ls1 l, bd2_some, if_pos (Or.inr rfl)]
            · rw [if_neg (Int32.not_lt.mpr l.1), if_neg (Int32.not_lt.mpr l.2)]
          · refine ⟨0, Or.inl rfl, fun q => absurd q (by decide), ?_, fun s _ _ => ?_⟩
            · rw [ls0 l, bd2_some, if_pos (Or.inl rfl)]
            · by_cases u : a < 1
              · rw [if_pos u]
              · rw [if_neg u, if_pos (Int32.not_le.mp (fun q => l ⟨Int32.not_lt.mp u, q⟩))]
        by_cases k4 : k = 4
        · subst k4
          simp only [if_true]
          exact lease _ (fun l => Or.inr (Or.inr (Or.inr (Or.inl ⟨Or.inl rfl, l⟩))))
        · simp only [if_neg k4]
          by_cases k5 : k = 5
          · subst k5
            simp only [if_true]
            exact lease _ (fun l => Or.inr (Or.inr (Or.inr (Or.inl ⟨Or.inr (Or.inl rfl), l⟩))))
          · simp only [if_neg k5]
            by_cases k6 : k = 6
            · subst k6
              simp only [if_true]
              exact lease _ (fun l => Or.inr (Or.inr (Or.inr (Or.inl ⟨Or.inr (Or.inr rfl), l⟩))))
            · simp only [if_neg k6]
              by_cases k7 : k = 7
              · subst k7
                simp only [if_true]
                exact ⟨1, Or.inr rfl, fun _ => Or.inr (Or.inr (Or.inr (Or.inr (Or.inl rfl)))), rfl, fun _ _ _ => rfl⟩
              · simp only [if_neg k7]
                by_cases k8 : k = 8
                · subst k8
                  simp only [if_true]
                  exact ⟨1, Or.inr rfl, fun _ => Or.inr (Or.inr (Or.inr (Or.inr (Or.inr rfl)))), rfl, fun _ _ _ => rfl⟩
                · simp only [if_neg k8]
                  exact ⟨0, Or.inl rfl, fun q => absurd q (by decide), rfl, fun _ _ _ => rfl⟩
end
