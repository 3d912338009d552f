/-! ===== what is read of a STORE ===== -/
section
variable {X M j : Nat} {h : Hp} {s : MS} {g : GH} {B K W n : Nat}
theorem rd_set (w : RX X M h s g K) (mi : MI s g B K W) (hn : n < 5) (hu : mA s 1 n = 1) (hB : B ≤ 180) (hap : hI h (gq 5 10) (ndA X n) = mA s 6 n) : SC (rdS (ndA X n + 1) h) (rp (lgM s n) (cmM s n)) ∧ PI (rp (lgM s n) (cmM s n)) (cmM s n) ∧ cmM s n ≤ 180 ∧ ∀ i, (mA s 7 n).toNatClampNeg < i → i ≤ cmM s n → aI h (ndA X n + 10) i = rr (lgM s n) i := by
  have lB := mi_ls mi n
  obtain ⟨c1, c2, c3⟩ := mi_cm mi n
  obtain ⟨ap, a1, a2, a3, a4, a5⟩ := ap_of w mi hn hu
  have e : ap = cmM s n := by
    rw [a1, mi_6 mi hn hu, io_eq (by omega) (by omega)] at hap
    exact hap
  subst e
  exact ⟨a4, pi_rp _ (by omega) (fun i e1 e2 => mi_legal mi e1 (by omega)), by omega, a5⟩
theorem fn_work (fn : FN X M j h s) (hn : n < 5) (hj : j ≤ 200) : ∃ s2, gX10_work (Int32.ofNat n) s = some ((), s2) ∧ SM s2 (rp (lgM s n) (cmM s n)) ∧ (∀ i, 1 ≤ i → i ≤ cmM s n → mA s2 38 i = rr (lgM s n) i) ∧ FN X M j h s2 ∧ mF s2 0 = mF s 0 := by
  obtain ⟨g, K, W, w, mi, ca, ap, hk⟩ := fn
  obtain ⟨s2, a1, a2, a3, a4, a5, a6⟩ := g_work mi ca hn hj
  refine ⟨s2, a1, a2, a3, ⟨g, K, W, rx_frame w (fun x i _ h2 _ => a5 x i (by omega)) (fun k hk => a6 k (by omega)), mi_frame mi (fun x i _ _ _ h4 => a5 x i (by omega)) (a6 24 (by omega)) (a6 27 (by omega)), a4, fun v hv hu => ?_, hk⟩, a6 0 (by omega)⟩
  rw [a5 1 v (by omega)] at hu
  rw [a5 6 v (by omega)]
  exact ap v hv hu
theorem sm_F0 {p : MS} {v : Int32} (a : SM s p) : SM (uF s 0 v) p := sm_ext (s := s) (fun _ _ _ _ => rfl) (fun k hk => mF_n s _ (show k ≠ 0 by omega)) a
/-- a Store that isn't changed -/
theorem r7_of {α : Type} {q : Nat} {f : Hp → Option (α × Hp)} {r : SS → Option (α × SS)} {v : α} (e : ∀ t, f (ps q h t) = lf7 q h (r t)) (er : r (rdS q h) = some (v, rdS q h)) : f h = some (v, h) := by
  have := e (rdS q h)
  rw [er, lf7_some, ps_self] at this
  exact this
theorem law_result (hj : j < 64) (J : JJ X M j h) (x y : Int32) : OKi (JJ X M (j + 1)) M (M + 39) h (fL_result X x y (M + 39)) (fX10_result M x y) := by
  obtain ⟨s, kp, g, K, W, w, mi0, ca, ap, hk⟩ := J
  have mi := mi_B (Nat.le_succ j) mi0
  have fn : FN X M (j + 1) h s := ⟨g, K, W, w, mi, ca, ap, by omega⟩
  have er : ∀ H, MW M H → fX10_result M x y (pm M H s) = lft M H (gX10_result x y s) := fun H hw => eX10_result hw x y s
  rcases nd_cs x with z | ⟨n, hn, rfl⟩
  · refine ok_i (k := 1) (h1 := h) (s' := uF s 0 1) (b := 0) ?_ er ?_ mF_h0 (fun q => absurd q (by decide)) kp (fn_F fn)
    · unfold fL_result fX9_result
      rw [if_pos (q_kX w), if_pos (q_kX w), c_nodeNo w z, bdx_inr, bdc_inr, if_pos rfl]
    · unfold gX10_result gX10_result_13
      rw [g_noN z, bdm_some, if_pos rfl, g_bad1, bdm_some, if_neg (by decide)]
  · have n1 := (mi.2.1 n hn).1
    have lB := mi_ls mi n
    obtain ⟨c1, c2, c3⟩ := mi_cm mi n
    have no : (mA s 1 n = 0 ∨ y ≤ mA s 7 n ∨ ¬ y ≤ mA s 6 n) → OKi (JJ X M (j + 1)) M (M + 39) h (fL_result X (Int32.ofNat n) y (M + 39)) (fX10_result M (Int32.ofNat n) y) := by
      intro z
      refine ok_i (k := 2) (h1 := h) (s' := uF (uF s 0 0) 0 2) (b := 0) ?_ er ?_ mF_h0 (fun q => absurd q (by decide)) kp (fn_F (fn_F fn))
      · unfold fL_result fX9_result fX5_knowsResult
        rw [if_pos (q_kX w), if_pos (q_kX w), c_nodeAt w hn, bdx_inl, onR_some, if_pos (q_k5 w hn), q_up w hn, bd_some]
        by_cases u : mA s 1 n = 0
        · rw [if_pos u, bd2_some, if_pos rfl, bdc_inr, if_neg (by decide), if_pos rfl]
        · have hu := n1.resolve_left u
          rw [if_neg u, q_from w hn hu, bd_some]
          by_cases v : y ≤ mA s 7 n
          · rw [if_pos v, bd2_some, if_pos rfl, bdc_inr, if_neg (by decide), if_pos rfl]
          · rw [if_neg v, gI_k (q_k5 w hn), bd_some, ap n hn hu, if_pos (Int32.not_le.mp ((z.resolve_left u).resolve_left v)), bd2_some, if_pos rfl, bdc_inr, if_neg (by decide), if_pos rfl]
      · unfold gX10_result gX10_result_13 gX10_result_50 gX10_result_55
        rw [g_isN hn, bdm_some, if_neg (by decide), g_bad0, bdm_some, if_pos rfl, ld_1 hn, bd_some, mA_uF]
        by_cases u : mA s 1 n = 0
        · rw [if_pos u, g_bad1, bdm_some, if_neg (by decide)]
        · rw [if_neg u, ld_7 hn, bd_some, mA_uF]
          by_cases v : y ≤ mA s 7 n
          · rw [if_pos v, g_bad1, bdm_some, if_neg (by decide)]
          · rw [if_neg v, ld_6 hn, bd_some, mA_uF, if_neg ((z.resolve_left u).resolve_left v), g_bad1, bdm_some, if_neg (by decide)]
    by_cases u : mA s 1 n = 0
    · exact no (Or.inl u)
    · by_cases v : y ≤ mA s 7 n
      · exact no (Or.inr (Or.inl v))
      · by_cases x : y ≤ mA s 6 n
        · have hu := n1.resolve_left u
          obtain ⟨sc, pi, c18, res⟩ := rd_set w mi hn hu (by omega) (ap n hn hu)
          have fn2 := fn_F (v := 0) (fn_F (v := 0) fn)
          obtain ⟨s2, a1, a2, a3, a4, a5⟩ := fn_work fn2 hn (by omega)
          have f0 : 0 ≤ mA s 7 n := ((rx_n w hn).2.1.2.2.2.2.1 hu).2
          have y0 : 0 ≤ y := Int32.le_of_lt (Int32.lt_of_le_of_lt f0 (Int32.not_le.mp v))
          have yi := io_of y0
          have fi := io_of f0
          have v' : ¬ y ≤ mA s 7 n := v
          have x' : y ≤ mA s 6 n := x
          rw [yi, fi, io_le (Int32.toNatClampNeg_lt _) (Int32.toNatClampNeg_lt _)] at v'
          rw [yi, mi_6 mi hn hu, io_le (Int32.toNatClampNeg_lt _) (by omega)] at x'
          have rc := res y.toNatClampNeg (by omega) x'
          have rg := a3 y.toNatClampNeg (by omega) x'
          refine ok_iv (h1 := h) (s' := s2) (b := rr (lgM s n) y.toNatClampNeg) ?_ er ?_ (by rw [a5, mF_h0]) kp a4
          · unfold fL_result fX9_result fX5_knowsResult
            rw [if_pos (q_kX w), if_pos (q_kX w), c_nodeAt w hn, bdx_inl, onR_some, if_pos (q_k5 w hn), q_up w hn, bd_some, if_neg u, q_from w hn hu, bd_some, if_neg v, gI_k (q_k5 w hn), bd_some, ap n hn hu, if_neg (Int32.not_lt.mpr x), q_res w hn, bd_some, onR_some, lnA_k (q_k10 w hn), bd_some]
            generalize y.toNatClampNeg = i at *
            subst yi
            rw [if_neg (by rw [io_le (by omega) (by omega)]; omega), bd2_some, if_neg (by decide), q_res w hn, bd_some, onR_some, ldI_k (q_k10 w hn) (show i < 1201 by omega) (by decide), bd_some, rc, bdc_inl]
          · unfold gX10_result gX10_result_13 gX10_result_55
            rw [g_isN hn, bdm_some, if_neg (by decide), g_bad0, bdm_some, if_pos rfl, ld_1 hn, bd_some, mA_uF, if_neg u, ld_7 hn, bd_some, mA_uF, if_neg v, ld_6 hn, bd_some, mA_uF, if_pos x, g_bad0, bdm_some, if_pos rfl, a1, bdm_some]
            generalize y.toNatClampNeg = i at *
            subst yi
            rw [ld_38 (show i < 1201 by omega), bd_some, rg]
            rfl
        · exact no (Or.inr (Or.inr x))
def kyV (p : MS) (k : Nat) (w : Int32) : Int32 := if w = 4 then mA p 31 k else pSays p k w
theorem l_43 {w : Int32} (h : w ≤ (4 : Int32)) (h4 : w ≠ 4) : w ≤ (3 : Int32) := by
  rw [Int32.le_iff_toInt_le, show (4 : Int32).toInt = 4 from rfl] at h
  rw [Int32.le_iff_toInt_le, show (3 : Int32).toInt = 3 from rfl]
  have : w.toInt ≠ 4 := fun q => h4 (Int32.toInt_inj.mp (q.trans (show (4 : Int) = (4 : Int32).toInt from rfl)))
  omega
theorem c7_ky {t : SS} {p : MS} {k : Nat} {w : Int32} (c : SC t p) (hk : k < 64) (w0 : 0 ≤ w) (w4 : w ≤ 4) : gX7_keyField (Int32.ofNat k) w t = some (kyV p k w, t) := by
  unfold kyV
  by_cases z : w = 4
  · subst z
    obtain ⟨v1, v2, v3, v4, v5⟩ := c.2.2.2.2.1 k hk
    rw [if_pos rfl]
    unfold gX7_keyField
    rw [k7_is hk, bd7_some, if_neg (by decide), if_neg (by decide), if_neg (by decide), if_neg (by decide), if_neg (by decide), l7_6 hk, bd_some, v5]
  · rw [if_neg z]
    exact c7_says c hk w0 (l_43 w4 z)
theorem g_ky {p : MS} {k : Nat} {w : Int32} (a : SM s p) (hk : k < 64) : (if w = (4 : Int32) then (bd (ldA s 11 31 (Int32.ofNat k)) fun z4 => some (z4, s)) else (bdm (gX10_says (Int32.ofNat k) w s) fun z3 s3 => some (z3, s3))) = some (kyV p k w, s) := by
  obtain ⟨v1, v2, v3, v4, v5⟩ := a.2.2.2.2.1 k hk
  unfold kyV
  by_cases z : w = 4
  · rw [if_pos z, if_pos z, ld_31 hk, bd_some, v5]
  · rw [if_neg z, if_neg z, g_says hk, bdm_some]
    unfold pSays
    rw [v1, v2, v3, v4]
theorem isK_cs (k : Int32) : ¬ isK k ∨ ∃ i, i < 64 ∧ k = Int32.ofNat i := by
  by_cases z : isK k
  · exact Or.inr ⟨pN k, (isK_n z).1, (isK_n z).2⟩
  · exact Or.inl z
theorem isK_of {i : Nat} (h : i < 64) : isK (Int32.ofNat i) := ⟨by rw [io_nl (by omega)]; trivial, by rw [show (64 : Int32) = Int32.ofNat 64 from rfl, io_lt (by omega) (by omega)]; exact h⟩
/-- the class's store of node n, for a key -/
theorem c_swk {i : Nat} (w : RX X M h s g K) (hn : n < 5) (hi : i < 64) (hu : mA s 1 n = 1) : fX9_storeWithKey X (Int32.ofNat n) (Int32.ofNat i) h = some (.inl (some (ndA X n + 1)), h) := by
  unfold fX9_storeWithKey
  rw [if_pos (q_kX w), c_nodeAt w hn, bdx_inl, onR_some, (ky1 (s := s) (isK_of hi)).1, bd2_some, if_neg (by decide), c_reqUp1 w hn hu, bdx_inl, q_store w hn, bd_some, onR_some]
theorem c_swk0 {x k : Int32} (w : RX X M h s g K) (z : (x < 0 ∨ (5 : Int32) ≤ x) ∨ ¬ isK k) : fX9_storeWithKey X x k h = some (.inr 0, h) := by
  unfold fX9_storeWithKey
  rcases nd_cs x with y | ⟨n, hn, rfl⟩
  · rw [if_pos (q_kX w), c_nodeNo w y, bdx_inr]
  · have e := z.resolve_left (fun q => by
      rcases q with q | q
      · rw [io_nn (by omega)] at q; exact q
      · exact i5_le hn q)
    rw [if_pos (q_kX w), c_nodeAt w hn, bdx_inl, onR_some, (ky0 (s := s) e).1, bd2_some, if_pos rfl]
theorem c_swk1 {i : Nat} (w : RX X M h s g K) (hn : n < 5) (hi : i < 64) (hu : mA s 1 n = 0) : fX9_storeWithKey X (Int32.ofNat n) (Int32.ofNat i) h = some (.inr 1, h) := by
  unfold fX9_storeWithKey
  rw [if_pos (q_kX w), c_nodeAt w hn, bdx_inl, onR_some, (ky1 (s := s) (isK_of hi)).1, bd2_some, if_neg (by decide), c_reqUp0 w hn hu, bdx_inr]
theorem law_key (hj : j < 64) (J : JJ X M j h) (x k w' : Int32) : OKi (JJ X M (j + 1)) M (M + 39) h (fL_key X x k w' (M + 39)) (fX10_key M x k w') := by
  obtain ⟨s, kp, g, K, W, w, mi0, ca, ap, hk⟩ := J
  have mi := mi_B (Nat.le_succ j) mi0
  have fn : FN X M (j + 1) h s := ⟨g, K, W, w, mi, ca, ap, by omega⟩
  have er : ∀ H, MW M H → fX10_key M x k w' (pm M H s) = lft M H (gX10_key x k w' s) := fun H hw => eX10_key hw x k w' s
  have no1 : ((x < 0 ∨ (5 : Int32) ≤ x) ∨ ¬ isK k) → OKi (JJ X M (j + 1)) M (M + 39) h (fL_key X x k w' (M + 39)) (fX10_key M x k w') := by
    intro z
    refine ok_i (k := 1) (h1 := h) (s' := uF s 0 1) (b := 0) ?_ er ?_ mF_h0 (fun q => absurd q (by decide)) kp (fn_F fn)
    · unfold fL_key fX9_key
      rw [if_pos (q_kX w), if_pos (q_kX w), c_swk0 w z, bdx_inr, bdc_inr, if_pos rfl]
    · unfold gX10_key gX10_key_15 gX10_key_20
      rcases nd_cs x with y | ⟨n, hn, rfl⟩
      · rw [g_noN y, bdm_some, if_pos rfl, g_bad1, bdm_some, if_neg (by decide)]
      · have e := z.resolve_left (fun q => by
          rcases q with q | q
          · rw [io_nn (by omega)] at q; exact q
          · exact i5_le hn q)
        rw [g_isN hn, bdm_some, if_neg (by decide), (ky0 (h := h) e).2, bdm_some, if_pos rfl, g_bad1, bdm_some, if_neg (by decide)]
  rcases nd_cs x with z | ⟨n, hn, rfl⟩
  · exact no1 (Or.inl z)
  · rcases isK_cs k with z | ⟨i, hi, rfl⟩
    · exact no1 (Or.inr z)
    · by_cases u : mA s 1 n = 0
      · refine ok_i (k := 2) (h1 := h) (s' := uF (uF s 0 0) 0 2) (b := 0) ?_ er ?_ mF_h0 (fun q => absurd q (by decide)) kp (fn_F (fn_F fn))
        · unfold fL_key fX9_key
          rw [if_pos (q_kX w), if_pos (q_kX w), c_swk1 w hn hi u, bdx_inr, bdc_inr, if_neg (by decide), if_pos rfl]
        · unfold gX10_key gX10_key_20 gX10_key_42
          rw [g_isN hn, bdm_some, if_neg (by decide), (ky1 (h := h) (isK_of hi)).2, bdm_some, if_neg (by decide), g_bad0, bdm_some, if_pos rfl, ld_1 hn, bd_some, mA_uF, if_pos u, g_bad1, bdm_some, if_neg (by decide)]
      · have hu := (mi.2.1 n hn).1.resolve_left u
        by_cases v : 0 ≤ w' ∧ w' ≤ 4
        · obtain ⟨sc, pi, c18, res⟩ := rd_set w mi hn hu (by omega) (ap n hn hu)
          obtain ⟨s2, a1, a2, a3, a4, a5⟩ := fn_work (fn_F (v := 0) (fn_F (v := 0) (fn_F (v := 0) fn))) hn (by omega)
          have a2' : SM s2 (rp (lgM s n) (cmM s n)) := a2
          refine ok_iv (h1 := h) (s' := s2) (b := kyV (rp (lgM s n) (cmM s n)) i w') ?_ er ?_ (by rw [a5, mF_h0]) kp a4
          · unfold fL_key fX9_key
            have r7 := r7_of (fun t => eX7_keyField (q_sw w hn) (Int32.ofNat i) w' t) (c7_ky sc hi v.1 v.2)
            rw [if_pos (q_kX w), if_pos (q_kX w), c_swk w hn hi hu, bdx_inl, onR_some, if_neg (Int32.not_lt.mpr v.1), if_pos v.2, if_pos (q_sw w hn).1, r7, bd2_some, bdc_inl]
          · unfold gX10_key gX10_key_20 gX10_key_42 gX10_key_64
            rw [g_isN hn, bdm_some, if_neg (by decide), (ky1 (h := h) (isK_of hi)).2, bdm_some, if_neg (by decide), g_bad0, bdm_some, if_pos rfl, ld_1 hn, bd_some, mA_uF, if_neg u, g_bad0, bdm_some, if_pos rfl, if_neg (Int32.not_lt.mpr v.1), if_pos v.2, g_bad0, bdm_some, if_pos rfl, a1, bdm_some]
            exact g_ky a2' hi
        · refine ok_i (k := 3) (h1 := h) (s' := uF (uF (uF s 0 0) 0 0) 0 3) (b := 0) ?_ er ?_ mF_h0 (fun q => absurd q (by decide)) kp (fn_F (fn_F (fn_F fn)))
          · unfold fL_key fX9_key fX9_key_17
            rw [if_pos (q_kX w), if_pos (q_kX w), c_swk w hn hi hu, bdx_inl, onR_some]
            by_cases w0 : w' < 0
            · rw [if_pos w0, bdc_inr, if_neg (by decide), if_neg (by decide), if_pos rfl]
            · rw [if_neg w0, if_neg (fun q => v ⟨Int32.not_lt.mp w0, q⟩), bdc_inr, if_neg (by decide), if_neg (by decide), if_pos rfl]
          · unfold gX10_key gX10_key_20 gX10_key_42 gX10_key_59 gX10_key_64
            rw [g_isN hn, bdm_some, if_neg (by decide), (ky1 (h := h) (isK_of hi)).2, bdm_some, if_neg (by decide), g_bad0, bdm_some, if_pos rfl, ld_1 hn, bd_some, mA_uF, if_neg u, g_bad0, bdm_some, if_pos rfl]
            by_cases w0 : w' < 0
            · rw [if_pos w0, g_bad1, bdm_some, if_neg (by decide)]
            · rw [if_neg w0, if_neg (fun q => v ⟨Int32.not_lt.mp w0, q⟩), g_bad1, bdm_some, if_neg (by decide)]
end
