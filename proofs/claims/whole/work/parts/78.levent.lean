/-! ===== events ===== -/
/-- the first event from i on whose revision isn't below r -/
def fR (p : MS) (r : Int32) : Nat → Nat → Nat
  | 0, i => i
  | d + 1, i => if r ≤ mA p 34 i then i else fR p r d (i + 1)
theorem fR_s (p : MS) (r : Int32) (d i : Nat) : fR p r (d + 1) i = if r ≤ mA p 34 i then i else fR p r d (i + 1) := rfl
theorem fR_le {p : MS} {r : Int32} : ∀ (d i : Nat), i ≤ fR p r d i ∧ fR p r d i ≤ i + d
  | 0, i => ⟨Nat.le_refl _, Nat.le_refl _⟩
  | d + 1, i => by
    rw [fR_s]
    split
    · omega
    · have := fR_le (p := p) (r := r) d (i + 1); omega
theorem fR_skip {p : MS} {r : Int32} {d : Nat} : ∀ (e i : Nat), (∀ k, i ≤ k → k < i + e → ¬ r ≤ mA p 34 k) → fR p r (e + d) i = fR p r d (i + e)
  | 0, i, _ => by rw [Nat.zero_add]; rfl
  | e + 1, i, h => by
    rw [show e + 1 + d = (e + d) + 1 by omega, fR_s, if_neg (h i (Nat.le_refl _) (by omega)), fR_skip e (i + 1) (fun k h1 h2 => h k (by omega) (by omega)), show i + 1 + e = i + (e + 1) by omega]
theorem io_s0 (x : Int32) (h : 0 ≤ x) : x.toNatClampNeg < 2147483648 := Int32.toNatClampNeg_lt x
section
variable {t : SS} {s p : MS} {N : Nat}
theorem sc_ev (c : SC t p) (i : Nat) (hi : fV p + i < nE p) : lk7 t 12 1 (Int32.ofNat i) = some (coded p (fV p + i)) := by
  have := c.1
  rw [lk7_g (by omega), c.2.2.2.2.2.2.2.1.2 i hi]
theorem sc_3 (c : SC t p) : tF t 3 = Int32.ofNat (nE p - fV p) := c.2.2.2.2.2.2.2.1.1
theorem c7_fef (c : SC t p) (pi : PI p N) (hN : N ≤ 190) {r : Int32} : ∀ (d i f : Nat), fV p + i + d = nE p → d < f → gX7_firstEventFrom_2 f r (Int32.ofNat i) t = some (Int32.ofNat (fR p r d (fV p + i) - fV p), t) := by
  have hE := c.1
  intro d
  induction d with
  | zero =>
    intro i f h0 hf
    obtain ⟨f, rfl⟩ : ∃ g, f = g + 1 := ⟨f - 1, by omega⟩
    have e0 : gX7_firstEventFrom_2 (f + 1) r (Int32.ofNat i) t = gX7_firstEventFrom_2_body (gX7_firstEventFrom_2 f) r (Int32.ofNat i) t := rfl
    rw [e0]
    unfold gX7_firstEventFrom_2_body rd7
    rw [bd_some, sc_3 c, if_pos (by rw [io_le (by omega) (by omega)]; omega)]
    show _ = some (Int32.ofNat (fV p + i - fV p), t)
    rw [Nat.add_sub_cancel_left]
  | succ d ih =>
    intro i f h0 hf
    obtain ⟨f, rfl⟩ : ∃ g, f = g + 1 := ⟨f - 1, by omega⟩
    have e0 : gX7_firstEventFrom_2 (f + 1) r (Int32.ofNat i) t = gX7_firstEventFrom_2_body (gX7_firstEventFrom_2 f) r (Int32.ofNat i) t := rfl
    rw [e0]
    unfold gX7_firstEventFrom_2_body rd7
    rw [bd_some, sc_3 c, if_neg (by rw [io_le (by omega) (by omega)]; omega), sc_ev c i (by omega), bd_some, d7_rev (pi_ev pi (by omega) (by omega)), bd7_some, fR_s]
    by_cases z : r ≤ mA p 34 (fV p + i)
    · rw [if_pos z, if_pos z, Nat.add_sub_cancel_left]
    · rw [if_neg z, if_neg z, io_a1, ih (i + 1) f (by omega) (by omega)]
      rfl
theorem g_e75 {r x3 : Int32} (a : SM s p) (wf : WFe p) (hE : nE p ≤ 400) : ∀ (d i f : Nat), i + d = nE p → d < f → gX10_event__75 f r x3 (Int32.ofNat i) s = gX10_event__101 x3 (Int32.ofNat (fR p r d i)) s := by
  have w47 : rdF s 47 = some (Int32.ofNat (nE p)) := by
    have : mF s 47 = Int32.ofNat (nE p) := a.2.2.2.1.trans wf
    unfold rdF; rw [this]
  intro d
  induction d with
  | zero =>
    intro i f h0 hf
    obtain ⟨f, rfl⟩ : ∃ g, f = g + 1 := ⟨f - 1, by omega⟩
    have e0 : gX10_event__75 (f + 1) r x3 (Int32.ofNat i) s = gX10_event__75_body (gX10_event__75 f) r x3 (Int32.ofNat i) s := rfl
    rw [e0]
    unfold gX10_event__75_body
    rw [w47, bd_some, if_pos (by rw [io_le (by omega) (by omega)]; omega)]
    rfl
  | succ d ih =>
    intro i f h0 hf
    obtain ⟨f, rfl⟩ : ∃ g, f = g + 1 := ⟨f - 1, by omega⟩
    have e0 : gX10_event__75 (f + 1) r x3 (Int32.ofNat i) s = gX10_event__75_body (gX10_event__75 f) r x3 (Int32.ofNat i) s := rfl
    rw [e0]
    unfold gX10_event__75_body
    rw [w47, bd_some, if_neg (by rw [io_le (by omega) (by omega)]; omega), ld_34 (by omega), bd_some, (a.2.2.2.2.2.2.2 i (by omega)).1, fR_s]
    by_cases z : r ≤ mA p 34 i
    · rw [if_pos z, if_pos z]
    · rw [if_neg z, if_neg z, io_a1, ih (i + 1) f (by omega) (by omega)]
theorem g_cod (a : SM s p) (hE : nE p ≤ 400) {i : Nat} (hi : i < nE p) : gX10_coded (Int32.ofNat i) s = some (coded p i, s) := by
  obtain ⟨v1, v2, v3, v4⟩ := a.2.2.2.2.2.2.2 i hi
  unfold gX10_coded coded
  rw [ld_37 (by omega), bd_some, v4]
  by_cases z : mA p 37 i = 0
  · rw [if_pos z, if_pos z, ld_34 (by omega), bd_some, ld_35 (by omega), bd_some, v1, v2]
  · rw [if_neg z, if_neg z, ld_34 (by omega), bd_some, ld_35 (by omega), bd_some, ld_36 (by omega), bd_some, v1, v2, v3]
/-- a revision above COMPACTED: what lies up to it is passed over -/
theorem fR_cut {r : Int32} (hr : mF p 42 < r) : fR p r (nE p) 0 = fR p r (nE p - fV p) (fV p) := by
  have fl := fV_le p
  have := fR_skip (p := p) (r := r) (d := nE p - fV p) (fV p) 0 (fun k _ h2 q => fv_lo (p := p) (i := k) (by omega) (Int32.lt_of_lt_of_le hr q))
  rw [Nat.zero_add, show fV p + (nE p - fV p) = nE p by omega] at this
  exact this
end
theorem ldL_k {t L a i : Nat} {h : Hp} (e : hK h a = some (t, L)) (hi : i < L) (hL : L < 100000) : ldL h t a (Int32.ofNat i) = some (aL h a i) := by
  unfold ldL
  rw [if_pos, io_cl (by omega)]
  unfold inB
  rw [e]
  simp only [Bool.and_eq_true, decide_eq_true_eq]
  rw [io_nn (by omega), io_cl (by omega)]
  exact ⟨trivial, fun q => q.elim id (fun z => by omega)⟩
section
variable {X M j : Nat} {h : Hp} {s : MS} {g : GH} {B K W n : Nat}
theorem law_event (hj : j < 64) (J : JJ X M j h) (x r y : Int32) : OKl (JJ X M (j + 1)) M (M + 39) h (fL_event X x r y (M + 39)) (fX10_event_ M x r y) := by
  obtain ⟨s, kp, g, K, W, w, mi0, ca, ap, hk⟩ := J
  have mi := mi_B (Nat.le_succ j) mi0
  have fn : FN X M (j + 1) h s := ⟨g, K, W, w, mi, ca, ap, by omega⟩
  have er : ∀ H, MW M H → fX10_event_ M x r y (pm M H s) = lft M H (gX10_event_ x r y s) := fun H hw => eX10_event_ hw x r y s
  rcases nd_cs x with z | ⟨n, hn, rfl⟩
  · refine ok_l (k := 1) (h1 := h) (s' := uF s 0 1) (b := 0) ?_ er ?_ mF_h0 (fun q => absurd q (by decide)) kp (fn_F fn)
    · unfold fL_event fX9_event
      rw [if_pos (q_kX w), if_pos (q_kX w), c_nodeNo w z, bdx_inr, bdc_inr, if_pos rfl]
    · unfold gX10_event_ gX10_event__13
      rw [g_noN z, bdm_some, if_pos rfl, g_bad1, bdm_some, if_neg (by decide)]
  · by_cases u : mA s 1 n = 0
    · refine ok_l (k := 2) (h1 := h) (s' := uF (uF s 0 0) 0 2) (b := 0) ?_ er ?_ mF_h0 (fun q => absurd q (by decide)) kp (fn_F (fn_F fn))
      · unfold fL_event fX9_event
        rw [if_pos (q_kX w), if_pos (q_kX w), c_nodeAt w hn, bdx_inl, onR_some, c_reqUp0 w hn u, bdx_inr, bdc_inr, if_neg (by decide), if_pos rfl]
      · unfold gX10_event_ gX10_event__13 gX10_event__35
        rw [g_isN hn, bdm_some, if_neg (by decide), g_bad0, bdm_some, if_pos rfl, ld_1 hn, bd_some, mA_uF, if_pos u, g_bad1, bdm_some, if_neg (by decide)]
    · have hu := (mi.2.1 n hn).1.resolve_left u
      obtain ⟨sc, pi, c18, res⟩ := rd_set w mi hn hu (by omega) (ap n hn hu)
      obtain ⟨s2, a1, a2, a3, a4, a5⟩ := fn_work (fn_F (v := 0) (fn_F (v := 0) fn)) hn (by omega)
      have a2' : SM s2 (rp (lgM s n) (cmM s n)) := a2
      clear a2 a3 res
      have sw := q_sw w hn
      have k7 := sw.1
      have k71 : hK h (ndA X n + 1 + 1) = some (12, 464) := sw.2.1 1 (by decide) (by decide)
      have r72 : gR h 7 2 (ndA X n + 1) = some (some (ndA X n + 1 + 1)) := by rw [gR_k k7, sw.2.2 (2, 1) (by decide)]
      have g71 : gI h 7 1 (ndA X n + 1) = some (mF (rp (lgM s n) (cmM s n)) 42) := by rw [gI_k k7]; exact congrArg some sc.2.2.1
      have g73 : gI h 7 3 (ndA X n + 1) = some (Int32.ofNat (nE (rp (lgM s n) (cmM s n)) - fV (rp (lgM s n) (cmM s n)))) := by rw [gI_k k7]; exact congrArg some (sc_3 sc)
      have aev : ∀ i, fV (rp (lgM s n) (cmM s n)) + i < nE (rp (lgM s n) (cmM s n)) → aL h (ndA X n + 1 + 1) i = coded (rp (lgM s n) (cmM s n)) (fV (rp (lgM s n) (cmM s n)) + i) := sc.2.2.2.2.2.2.2.1.2
      have hE := sc.1
      have fl := fV_le (rp (lgM s n) (cmM s n))
      have wf := pi_wf pi
      have fef : ∀ r, fX7_firstEventFrom (ndA X n + 1) r h = some (Int32.ofNat (fR (rp (lgM s n) (cmM s n)) r (nE (rp (lgM s n) (cmM s n)) - fV (rp (lgM s n) (cmM s n))) (fV (rp (lgM s n) (cmM s n))) - fV (rp (lgM s n) (cmM s n))), h) := fun r => by
        have e := c7_fef (r := r) sc pi (by omega) (nE (rp (lgM s n) (cmM s n)) - fV (rp (lgM s n) (cmM s n))) 0 LF (by omega) (LF_lt (by omega))
        exact r7_of (fun t => eX7_firstEventFrom sw r t) e
      have red : gX10_event_ (Int32.ofNat n) r y s = bd (rdF s2 42) fun z3 => if z3 < r then (gX10_event__63 r y (0 : Int32) s2) else (gX10_event__63 r y (1 : Int32) s2) := by
        unfold gX10_event_ gX10_event__13 gX10_event__35
        rw [g_isN hn, bdm_some, if_neg (by decide), g_bad0, bdm_some, if_pos rfl, ld_1 hn, bd_some, mA_uF, if_neg u, g_bad0, bdm_some, if_pos rfl, a1, bdm_some]
      have fw : fL_event X (Int32.ofNat n) r y (M + 39) h = bdc (if mF (rp (lgM s n) (cmM s n)) 42 < r then (bd2 (fX7_firstEventFrom (ndA X n + 1) r h) fun z8 h8 => if y < 0 then (fX9_event_62 h8) else (bd (gI h8 7 3 (ndA X n + 1)) fun z10 => if y < (z10 - z8) then (bd (gR h8 7 2 (ndA X n + 1)) fun z12 => onR z12 (none) fun a13 => bd (ldL h8 12 a13 (z8 + y)) fun z14 => some (.inl z14, h8)) else (fX9_event_62 h8))) else (some (.inr 2, h))) (fun z1 h1 => bd (stL h1 12 (M + 39) (0 : Int32) z1) fun h2 => some ((0 : Int32), h2)) (fun k h1 => if k = 0 then some ((1 : Int32), h1) else (if k = 1 then some ((2 : Int32), h1) else (if k = 2 then some ((3 : Int32), h1) else (none)))) := by
        unfold fL_event fX9_event
        rw [if_pos (q_kX w), if_pos (q_kX w), c_nodeAt w hn, bdx_inl, onR_some, c_reqUp1 w hn hu, bdx_inl, q_store w hn, bd_some, onR_some, g71, bd_some, if_pos k7]
      generalize rp (lgM s n) (cmM s n) = p at *
      have r42 : rdF s2 42 = some (mF p 42) := congrArg some a2'.2.2.1
      rw [r42, bd_some] at red
      by_cases v : mF p 42 < r
      · rw [if_pos v, fef, bd2_some] at fw
        rw [if_pos v] at red
        have cut := fR_cut v
        have bnd := fR_le (p := p) (r := r) (nE p - fV p) (fV p)
        have a6 : SM (uF s2 0 0) p := sm_F0 a2'
        have red2 : gX10_event_ (Int32.ofNat n) r y s = gX10_event__101 y (Int32.ofNat (fR p r (nE p) 0)) (uF s2 0 0) := by
          rw [red]
          unfold gX10_event__63
          rw [g_bad0, bdm_some, if_pos rfl]
          exact g_e75 a6 wf hE (nE p) 0 LF (Nat.zero_add _) (LF_lt (by omega))
        rw [cut] at red2
        generalize fR p r (nE p - fV p) (fV p) = m at *
        have r47 : rdF (uF s2 0 0) 47 = some (Int32.ofNat (nE p)) := congrArg some (a6.2.2.2.1.trans wf)
        have no : (y < 0 ∨ ¬ y < Int32.ofNat (nE p - m)) → OKl (JJ X M (j + 1)) M (M + 39) h (fL_event X (Int32.ofNat n) r y (M + 39)) (fX10_event_ M (Int32.ofNat n) r y) := by
          intro z
          refine ok_l (k := 1) (h1 := h) (s' := uF (uF s2 0 0) 0 1) (b := 0) ?_ er ?_ mF_h0 (fun q => absurd q (by decide)) kp (fn_F (fn_F a4))
          · rw [fw]
            unfold fX9_event_62
            by_cases y0 : y < 0
            · rw [if_pos y0, bdc_inr, if_pos rfl]
            · rw [if_neg y0, g73, bd_some, io_sb (by omega), show nE p - fV p - (m - fV p) = nE p - m by omega, if_neg (z.resolve_left y0), bdc_inr, if_pos rfl]
          · rw [red2]
            unfold gX10_event__101 gX10_event__117 gX10_event__122
            by_cases y0 : y < 0
            · rw [if_pos y0, g_bad1, bdm_some, if_neg (by decide)]
            · rw [if_neg y0, r47, bd_some, io_sb (by omega), if_neg (z.resolve_left y0), g_bad1, bdm_some, if_neg (by decide)]
        by_cases y0 : y < 0
        · exact no (Or.inl y0)
        · by_cases y1 : y < Int32.ofNat (nE p - m)
          · have yi := io_of (Int32.not_lt.mp y0)
            have yl : y.toNatClampNeg < nE p - m := by
              have := y1
              rw [yi, io_lt (Int32.toNatClampNeg_lt _) (by omega)] at this
              exact this
            have yy0 := y0
            have yy1 := y1
            generalize y.toNatClampNeg = e at *
            subst yi
            refine ok_lv (h1 := h) (s' := uF (uF s2 0 0) 0 0) (b := coded p (m + e)) ?_ er ?_ mF_h0 kp (fn_F (fn_F a4))
            · have ev := aev (m - fV p + e) (by omega)
              rw [fw, if_neg yy0, g73, bd_some, io_sb (by omega), show nE p - fV p - (m - fV p) = nE p - m by omega, if_pos yy1, r72, bd_some, onR_some, io_ad, ldL_k k71 (show m - fV p + e < 464 by omega) (by decide), bd_some, bdc_inl, ev, show fV p + (m - fV p + e) = m + e by omega]
            · rw [red2]
              unfold gX10_event__101 gX10_event__122
              rw [if_neg yy0, r47, bd_some, io_sb (by omega), if_pos yy1, g_bad0, bdm_some, if_pos rfl, io_ad, g_cod (sm_F0 a6) hE (by omega), bdm_some]
          · exact no (Or.inr y1)
      · refine ok_l (k := 3) (h1 := h) (s' := uF s2 0 3) (b := 0) ?_ er ?_ mF_h0 (fun q => absurd q (by decide)) kp (fn_F a4)
        · rw [fw, if_neg v, bdc_inr, if_neg (by decide), if_neg (by decide), if_pos rfl]
        · rw [red, if_neg v]
          unfold gX10_event__63
          rw [g_bad1, bdm_some, if_neg (by decide)]
end
