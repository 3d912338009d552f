/-! ===== digest ===== -/
def dgK (p : MS) : Nat → Nat → Int64 → Int64
  | 0, _, a => a
  | d + 1, i, a => if mA p 27 i = 0 then dgK p d (i + 1) a else dgK p d (i + 1) ((((((((((((a * (31 : Int64)) + ((Int32.ofNat i).toInt64)) * (31 : Int64)) + ((mA p 30 i).toInt64)) * (31 : Int64)) + ((mA p 27 i).toInt64)) * (31 : Int64)) + ((mA p 28 i).toInt64)) * (31 : Int64)) + ((mA p 29 i).toInt64)) * (31 : Int64)) + ((mA p 31 i).toInt64))
def dgE (p : MS) : Nat → Nat → Int64 → Int64
  | 0, _, a => (a * (31 : Int64)) + (mF p 40).toInt64
  | d + 1, i, a => dgE p d (i + 1) ((a * (31 : Int64)) + coded p i)
section
variable {t : SS} {s p : MS} {N : Nat}
theorem c7_f108 (c : SC t p) : ∀ (d i f : Nat) (a : Int64), fV p + i + d = nE p → d < f → gX7_fingerprint_108 f a (Int32.ofNat i) t = some (dgE p d (fV p + i) a, t) := by
  have hE := c.1
  intro d
  induction d with
  | zero =>
    intro i f a h0 hf
    obtain ⟨f, rfl⟩ : ∃ g, f = g + 1 := ⟨f - 1, by omega⟩
    have e0 : gX7_fingerprint_108 (f + 1) a (Int32.ofNat i) t = gX7_fingerprint_108_body (gX7_fingerprint_108 f) a (Int32.ofNat i) t := rfl
    rw [e0]
    unfold gX7_fingerprint_108_body rd7
    rw [bd_some, sc_3 c, if_pos (by rw [io_le (by omega) (by omega)]; omega), bd_some, c.2.1]
    rfl
  | succ d ih =>
    intro i f a h0 hf
    obtain ⟨f, rfl⟩ : ∃ g, f = g + 1 := ⟨f - 1, by omega⟩
    have e0 : gX7_fingerprint_108 (f + 1) a (Int32.ofNat i) t = gX7_fingerprint_108_body (gX7_fingerprint_108 f) a (Int32.ofNat i) t := rfl
    rw [e0]
    unfold gX7_fingerprint_108_body rd7
    rw [bd_some, sc_3 c, if_neg (by rw [io_le (by omega) (by omega)]; omega), sc_ev c i (by omega), bd_some, io_a1, ih (i + 1) f _ (by omega) (by omega)]
    rfl
theorem c7_f6 (c : SC t p) : ∀ (d i f : Nat) (a : Int64), i + d = 64 → d < f → gX7_fingerprint_6 f a (Int32.ofNat i) t = some (dgE p (nE p - fV p) (fV p) (dgK p d i a), t) := by
  have hE := c.1
  have fl := fV_le p
  intro d
  induction d with
  | zero =>
    intro i f a h0 hf
    obtain ⟨f, rfl⟩ : ∃ g, f = g + 1 := ⟨f - 1, by omega⟩
    have e : i = 64 := by omega
    subst e
    have e0 : gX7_fingerprint_6 (f + 1) a (Int32.ofNat 64) t = gX7_fingerprint_6_body (gX7_fingerprint_6 f) a (Int32.ofNat 64) t := rfl
    rw [e0]
    unfold gX7_fingerprint_6_body
    rw [if_pos (show (64 : Int32) ≤ Int32.ofNat 64 from Int32.le_refl _)]
    exact c7_f108 c (nE p - fV p) 0 LF a (by omega) (LF_lt (by omega))
  | succ d ih =>
    intro i f a h0 hf
    obtain ⟨f, rfl⟩ : ∃ g, f = g + 1 := ⟨f - 1, by omega⟩
    have e0 : gX7_fingerprint_6 (f + 1) a (Int32.ofNat i) t = gX7_fingerprint_6_body (gX7_fingerprint_6 f) a (Int32.ofNat i) t := rfl
    obtain ⟨v1, v2, v3, v4, v5⟩ := c.2.2.2.2.1 i (by omega)
    have hi : i < 64 := by omega
    rw [e0]
    unfold gX7_fingerprint_6_body gX7_fingerprint_100 dgK
    simp only [if_neg (i64_le hi), l7_2 hi, l7_3 hi, l7_4 hi, l7_5 hi, l7_6 hi, bd_some, v1, v2, v3, v4, v5, io_a1]
    by_cases z : mA p 27 i = 0
    · rw [if_pos z, if_pos z]; exact ih (i + 1) f a (by omega) (by omega)
    · rw [if_neg z, if_neg z]; exact ih (i + 1) f _ (by omega) (by omega)
theorem g_d165 (a : SM s p) (wf : WFe p) (hE : nE p ≤ 400) : ∀ (d i f : Nat) (x : Int64), i + d = nE p → d < f → gX10_digest_165 f x (Int32.ofNat i) s = some (dgE p d i x, s) := by
  have w47 : rdF s 47 = some (Int32.ofNat (nE p)) := congrArg some (a.2.2.2.1.trans wf)
  have w40 : rdF s 40 = some (mF p 40) := congrArg some a.1
  intro d
  induction d with
  | zero =>
    intro i f x h0 hf
    obtain ⟨f, rfl⟩ : ∃ g, f = g + 1 := ⟨f - 1, by omega⟩
    have e0 : gX10_digest_165 (f + 1) x (Int32.ofNat i) s = gX10_digest_165_body (gX10_digest_165 f) x (Int32.ofNat i) s := rfl
    rw [e0]
    unfold gX10_digest_165_body
    rw [w47, bd_some, if_pos (by rw [io_le (by omega) (by omega)]; omega), w40, bd_some, Int64.mul_comm]
    rfl
  | succ d ih =>
    intro i f x h0 hf
    obtain ⟨f, rfl⟩ : ∃ g, f = g + 1 := ⟨f - 1, by omega⟩
    have e0 : gX10_digest_165 (f + 1) x (Int32.ofNat i) s = gX10_digest_165_body (gX10_digest_165 f) x (Int32.ofNat i) s := rfl
    rw [e0]
    unfold gX10_digest_165_body
    rw [w47, bd_some, if_neg (by rw [io_le (by omega) (by omega)]; omega), g_cod a hE (by omega), bdm_some, io_a1, Int64.mul_comm, ih (i + 1) f _ (by omega) (by omega)]
    rfl
theorem g_d56 (a : SM s p) (wf : WFe p) (hE : nE p ≤ 400) : ∀ (d i f : Nat) (x : Int64), i + d = 64 → d < f → gX10_digest_56 f x (Int32.ofNat i) s = some (dgE p (nE p - fV p) (fV p) (dgK p d i x), s) := by
  have fl := fV_le p
  have wf2 := sm_wf a wf
  have n2 := sm_n a
  intro d
  induction d with
  | zero =>
    intro i f x h0 hf
    obtain ⟨f, rfl⟩ : ∃ g, f = g + 1 := ⟨f - 1, by omega⟩
    have e : i = 64 := by omega
    subst e
    have e0 : gX10_digest_56 (f + 1) x (Int32.ofNat 64) s = gX10_digest_56_body (gX10_digest_56 f) x (Int32.ofNat 64) s := rfl
    rw [e0]
    unfold gX10_digest_56_body
    rw [if_pos (show (64 : Int32) ≤ Int32.ofNat 64 from Int32.le_refl _), g_first wf2 (by omega), bdm_some, sm_fV a]
    exact g_d165 a wf hE (nE p - fV p) (fV p) LF x (by omega) (LF_lt (by omega))
  | succ d ih =>
    intro i f x h0 hf
    obtain ⟨f, rfl⟩ : ∃ g, f = g + 1 := ⟨f - 1, by omega⟩
    have e0 : gX10_digest_56 (f + 1) x (Int32.ofNat i) s = gX10_digest_56_body (gX10_digest_56 f) x (Int32.ofNat i) s := rfl
    obtain ⟨v1, v2, v3, v4, v5⟩ := a.2.2.2.2.1 i (by omega)
    have hi : i < 64 := by omega
    rw [e0]
    unfold gX10_digest_56_body gX10_digest_153 dgK
    simp only [if_neg (i64_le hi), ld_27 hi, ld_28 hi, ld_29 hi, ld_30 hi, ld_31 hi, bd_some, v1, v2, v3, v4, v5, io_a1]
    have mc : ∀ y : Int64, (31 : Int64) * y = y * 31 := fun y => Int64.mul_comm _ _
    simp only [mc]
    by_cases z : mA p 27 i = 0
    · rw [if_pos z, if_pos z]; exact ih (i + 1) f x (by omega) (by omega)
    · rw [if_neg z, if_neg z]; exact ih (i + 1) f _ (by omega) (by omega)
end
section
variable {X M j : Nat} {h : Hp} {s : MS} {g : GH} {B K W n : Nat}
theorem law_digest (hj : j < 64) (J : JJ X M j h) (x : Int32) : OKl (JJ X M (j + 1)) M (M + 39) h (fL_digest X x (M + 39)) (fX10_digest M x) := by
  obtain ⟨s, kp, g, K, W, w, mi0, ca, ap, hk⟩ := J
  have mi := mi_B (Nat.le_succ j) mi0
  have fn : FN X M (j + 1) h s := ⟨g, K, W, w, mi, ca, ap, by omega⟩
  have er : ∀ H, MW M H → fX10_digest M x (pm M H s) = lft M H (gX10_digest x s) := fun H hw => eX10_digest hw x s
  rcases nd_cs x with z | ⟨n, hn, rfl⟩
  · refine ok_l (k := 1) (h1 := h) (s' := uF s 0 1) (b := 0) ?_ er ?_ mF_h0 (fun q => absurd q (by decide)) kp (fn_F fn)
    · unfold fL_digest fX9_digest
      rw [if_pos (q_kX w), if_pos (q_kX w), c_nodeNo w z, bdx_inr, bdc_inr, if_pos rfl]
    · unfold gX10_digest gX10_digest_13
      rw [g_noN z, bdm_some, if_pos rfl, g_bad1, bdm_some, if_neg (by decide)]
  · by_cases u : mA s 1 n = 0
    · refine ok_l (k := 2) (h1 := h) (s' := uF (uF s 0 0) 0 2) (b := 0) ?_ er ?_ mF_h0 (fun q => absurd q (by decide)) kp (fn_F (fn_F fn))
      · unfold fL_digest fX9_digest
        rw [if_pos (q_kX w), if_pos (q_kX w), c_nodeAt w hn, bdx_inl, onR_some, c_reqUp0 w hn u, bdx_inr, bdc_inr, if_neg (by decide), if_pos rfl]
      · unfold gX10_digest gX10_digest_13 gX10_digest_35
        rw [g_isN hn, bdm_some, if_neg (by decide), g_bad0, bdm_some, if_pos rfl, ld_1 hn, bd_some, mA_uF, if_pos u, g_bad1, bdm_some, if_neg (by decide)]
    · have hu := (mi.2.1 n hn).1.resolve_left u
      obtain ⟨sc, pi, c18, res⟩ := rd_set w mi hn hu (by omega) (ap n hn hu)
      obtain ⟨s2, a1, a2, a3, a4, a5⟩ := fn_work (fn_F (v := 0) (fn_F (v := 0) fn)) hn (by omega)
      have a2' : SM s2 (rp (lgM s n) (cmM s n)) := a2
      have wf := pi_wf pi
      have fp := c7_f6 sc 64 0 LF 7 rfl (LF_lt (by decide))
      have r7 : fX7_fingerprint (ndA X n + 1) h = some (_, h) := r7_of (fun t => eX7_fingerprint (q_sw w hn) t) fp
      refine ok_lv (h1 := h) (s' := s2) (b := dgE (rp (lgM s n) (cmM s n)) (nE (rp (lgM s n) (cmM s n)) - fV (rp (lgM s n) (cmM s n))) (fV (rp (lgM s n) (cmM s n))) (dgK (rp (lgM s n) (cmM s n)) 64 0 7)) ?_ er ?_ (by rw [a5, mF_h0]) kp a4
      · unfold fL_digest fX9_digest
        rw [if_pos (q_kX w), if_pos (q_kX w), c_nodeAt w hn, bdx_inl, onR_some, c_reqUp1 w hn hu, bdx_inl, q_store w hn, bd_some, onR_some, if_pos (q_sw w hn).1, r7, bd2_some, bdc_inl]
      · unfold gX10_digest gX10_digest_13 gX10_digest_35
        rw [g_isN hn, bdm_some, if_neg (by decide), g_bad0, bdm_some, if_pos rfl, ld_1 hn, bd_some, mA_uF, if_neg u, g_bad0, bdm_some, if_pos rfl, a1, bdm_some]
        exact g_d56 a2' wf sc.1 64 0 LF 7 rfl (LF_lt (by decide))
theorem law_all (hj : j < 64) (J : JJ X M j h) (a1 a2 a3 a4 : Int32) : (OKi (JJ X M (j + 1)) M (M + 39) h (fL_expire X a1 (M + 39)) (fX10_expire M a1)) ∧ (OKi (JJ X M (j + 1)) M (M + 39) h (fL_deliver X a1 (M + 39)) (fX10_deliver M a1)) ∧ (OKm (JJ X M (j + 1)) X M h (fX9_more X a1 a2 a3 a4) (fX10_more M a1 a2 a3 a4)) ∧ (OKi (JJ X M (j + 1)) M (M + 39) h (fL_propose X a1 a2 a3 a4 (M + 39)) (fX10_propose M a1 a2 a3 a4)) ∧ (OKi (JJ X M (j + 1)) M (M + 39) h (fL_beat X a1 (M + 39)) (fX10_beat M a1)) ∧ (OKi (JJ X M (j + 1)) M (M + 39) h (fL_shrink X a1 (M + 39)) (fX10_shrink M a1)) ∧ (OKv (JJ X M (j + 1)) M h (fL_crash X a1) (fX10_crash M a1)) ∧ (OKi (JJ X M (j + 1)) M (M + 39) h (fL_start X a1 (M + 39)) (fX10_start M a1)) ∧ (OKv (JJ X M (j + 1)) M h (fL_power X a1 a2) (fX10_power M a1 a2)) ∧ (OKi (JJ X M (j + 1)) M (M + 39) h (fL_result X a1 a2 (M + 39)) (fX10_result M a1 a2)) ∧ (OKi (JJ X M (j + 1)) M (M + 39) h (fL_key X a1 a2 a3 (M + 39)) (fX10_key M a1 a2 a3)) ∧ (OKi (JJ X M (j + 1)) M (M + 39) h (fL_past X a1 a2 a3 (M + 39)) (fX10_past M a1 a2 a3)) ∧ (OKl (JJ X M (j + 1)) M (M + 39) h (fL_event X a1 a2 a3 (M + 39)) (fX10_event_ M a1 a2 a3)) ∧ (OKi (JJ X M (j + 1)) M (M + 39) h (fL_message X a1 a2 (M + 39)) (fX10_message M a1 a2)) ∧ (OKi (JJ X M (j + 1)) M (M + 39) h (fL_node X a1 a2 (M + 39)) (fX10_node M a1 a2)) ∧ (OKi (JJ X M (j + 1)) M (M + 39) h (fL_entry X a1 a2 (M + 39)) (fX10_entry M a1 a2)) ∧ (OKl (JJ X M (j + 1)) M (M + 39) h (fL_digest X a1 (M + 39)) (fX10_digest M a1)) ∧ (OKg (JJ X M (j + 1)) X M h (fX9_messages X) (fX10_messages M)) ∧ (OKg (JJ X M (j + 1)) X M h (fX9_check X) (fX10_check M)) := ⟨law_expire hj J a1, law_deliver hj J a1, law_more J a1 a2 a3 a4, law_propose hj J a1 a2 a3 a4, law_beat hj J a1, law_shrink hj J a1, law_crash J a1, law_start J a1, law_power J a1 a2, law_result hj J a1 a2, law_key hj J a1 a2 a3, law_past hj J a1 a2 a3, law_event hj J a1 a2 a3, law_message hj J a1 a2, law_node hj J a1 a2, law_entry hj J a1 a2, law_digest hj J a1, law_messages J, law_check J⟩
theorem jj_up (J : JJ X M j h) : JJ X M (j + 1) h := by
  obtain ⟨s, kp, fn⟩ := J
  exact ⟨s, kp, fn_up fn⟩
theorem law_ok (hM : M = X + 92) : LawOK (JJ X M) X M (M + 39) := fun j hj h J a1 a2 a3 a4 => law_all hj J a1 a2 a3 a4
end
