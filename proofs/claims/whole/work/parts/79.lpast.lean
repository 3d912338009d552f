/-! ===== past ===== -/
def dnI (i : Nat) : Int32 := Int32.ofNat i - 1
theorem dn_s (i : Nat) : dnI (i + 1) = Int32.ofNat i := by
  unfold dnI
  rw [io_s1 (by omega), Nat.add_sub_cancel]
theorem dn_0 : dnI 0 = -1 := rfl
theorem dn_a (i : Nat) : Int32.ofNat i + (-1 : Int32) = dnI i := by
  unfold dnI
  rw [Int32.sub_eq_add_neg]
theorem lst_s (p : MS) (k n : Nat) : lst p k (n + 1) = if mA p 35 n = Int32.ofNat k then (mA p 37 n, mA p 36 n) else lst p k n := rfl
section
variable {t : SS} {s p : MS} {N k : Nat}
theorem lst_01 (pi : PI p N) (hN : N < 10000) : ∀ (n : Nat), n ≤ nE p → (lst p k n).1 = 0 ∨ (lst p k n).1 = 1
  | 0, _ => Or.inl rfl
  | n + 1, h => by
    rw [lst_s]
    split
    · obtain ⟨r, q, _, _, _, _, e⟩ := pi_ev pi hN (show n < nE p by omega)
      exact e.elim Or.inr (fun z => Or.inl z.1)
    · exact lst_01 pi hN n (by omega)
/-- the last event of key k below the i-th that isn't forgotten -/
theorem c7_lat (c : SC t p) (pi : PI p N) (hN : N ≤ 190) (hk : k < 64) : ∀ (i f : Nat), fV p + i ≤ nE p → i < f → ∃ y, gX7_latestEventOfKey_10 f (Int32.ofNat k) (dnI i) t = some (y, t) ∧ ((y = -1 ∧ lst p k (fV p + i) = lst p k (fV p)) ∨ ∃ l, l < i ∧ y = Int32.ofNat l ∧ lst p k (fV p + i) = (mA p 37 (fV p + l), mA p 36 (fV p + l))) := by
  have hE := c.1
  intro i
  induction i with
  | zero =>
    intro f h0 hf
    obtain ⟨f, rfl⟩ : ∃ g, f = g + 1 := ⟨f - 1, by omega⟩
    refine ⟨-1, ?_, Or.inl ⟨rfl, rfl⟩⟩
    have e0 : gX7_latestEventOfKey_10 (f + 1) (Int32.ofNat k) (dnI 0) t = gX7_latestEventOfKey_10_body (gX7_latestEventOfKey_10 f) (Int32.ofNat k) (dnI 0) t := rfl
    rw [e0]
    unfold gX7_latestEventOfKey_10_body
    rw [dn_0, if_pos (by decide)]
  | succ i ih =>
    intro f h0 hf
    obtain ⟨f, rfl⟩ : ∃ g, f = g + 1 := ⟨f - 1, by omega⟩
    have e0 : gX7_latestEventOfKey_10 (f + 1) (Int32.ofNat k) (dnI (i + 1)) t = gX7_latestEventOfKey_10_body (gX7_latestEventOfKey_10 f) (Int32.ofNat k) (dnI (i + 1)) t := rfl
    rw [e0]
    unfold gX7_latestEventOfKey_10_body
    rw [dn_s, if_neg (by rw [io_nn (by omega)]; exact id), sc_ev c i (by omega), bd_some, d7_key (pi_ev pi (by omega) (by omega)), bd7_some]
    have ls := lst_s p k (fV p + i)
    by_cases z : mA p 35 (fV p + i) = Int32.ofNat k
    · rw [if_pos z] at ls ⊢
      exact ⟨_, rfl, Or.inr ⟨i, by omega, rfl, ls⟩⟩
    · rw [if_neg z] at ls ⊢
      rw [dn_a]
      obtain ⟨y, y1, y2⟩ := ih f (by omega) (by omega)
      refine ⟨y, y1, ?_⟩
      have e : lst p k (fV p + (i + 1)) = lst p k (fV p + i) := ls
      rw [e]
      rcases y2 with y2 | ⟨l, l1, l2, l3⟩
      · exact Or.inl y2
      · exact Or.inr ⟨l, by omega, l2, l3⟩
theorem b6_and {U k : Nat} (hU : U < 2 ^ 64) (hk : k < 64) : (Int64.ofNat U &&& Int64.ofNat (2 ^ k) = 0) ↔ U.testBit k = false := by
  have h2 : 2 ^ k < 2 ^ 64 := Nat.pow_lt_pow_right (by decide) hk
  rw [← Int64.toBitVec_inj, Int64.toBitVec_and, il_bv, il_bv]
  have e0 : (0 : Int64).toBitVec = BitVec.ofNat 64 0 := rfl
  rw [e0]
  constructor
  · intro q
    have := congrArg BitVec.toNat q
    rw [BitVec.toNat_and, BitVec.toNat_ofNat, BitVec.toNat_ofNat, Nat.mod_eq_of_lt hU, Nat.mod_eq_of_lt h2] at this
    have tb := congrArg (fun z => Nat.testBit z k) this
    simp only [Nat.testBit_and, Nat.testBit_two_pow, decide_true, Bool.and_true, BitVec.toNat_ofNat, Nat.zero_mod, Nat.zero_testBit] at tb
    exact tb
  · intro q
    apply BitVec.eq_of_toNat_eq
    rw [BitVec.toNat_and, BitVec.toNat_ofNat, BitVec.toNat_ofNat, Nat.mod_eq_of_lt hU, Nat.mod_eq_of_lt h2, BitVec.toNat_ofNat, Nat.zero_mod]
    apply Nat.eq_of_testBit_eq
    intro i
    rw [Nat.testBit_and, Nat.testBit_two_pow, Nat.zero_testBit]
    by_cases e : k = i
    · subst e; rw [q]; rfl
    · rw [decide_eq_false e, Bool.and_false]
/-- was it there, and its value then: i events that aren't forgotten are looked at -/
theorem c7_was (c : SC t p) (pi : PI p N) (hN : N ≤ 190) (hk : k < 64) {i : Nat} {y : Int32} (hi : fV p + i ≤ nE p) (hy : (y = -1 ∧ lst p k (fV p + i) = lst p k (fV p)) ∨ ∃ l, l < i ∧ y = Int32.ofNat l ∧ lst p k (fV p + i) = (mA p 37 (fV p + l), mA p 36 (fV p + l))) : gX7_wasThere (Int32.ofNat k) y t = some (if (lst p k (fV p + i)).1 = 0 then 0 else 1, t) ∧ gX7_valueThen (Int32.ofNat k) y t = some ((lst p k (fV p + i)).2, t) := by
  have hE := c.1
  unfold gX7_wasThere gX7_valueThen
  rcases hy with ⟨y1, y2⟩ | ⟨l, l1, l2, l3⟩
  · subst y1
    obtain ⟨U, u1, u2, u3⟩ := c.2.2.2.2.2.2.2.2
    obtain ⟨u4, u5⟩ := u3 k hk
    have o1 := lst_01 (k := k) pi (by omega) (fV p) (fV_le p)
    have n1 : (-1 : Int32) < 0 := by decide
    rw [y2, if_pos n1, if_pos n1]
    unfold gX7_wasThere_22 gX7_valueThen_22 rl7
    constructor
    · rw [bd_some, u1, b6_1 hk]
      by_cases z : (lst p k (fV p)).1 = 0
      · rw [if_pos z, if_pos ((lg_cmp_eq _ _).mpr ((b6_and u2 hk).mpr (by
          cases q : U.testBit k
          · rfl
          · have := u4.mp q
            rw [z] at this; exact absurd this (by decide))))]
      · rw [if_neg z, if_neg (fun q => by
          have q2 := (b6_and u2 hk).mp ((lg_cmp_eq _ _).mp q)
          have q3 := u4.mpr (o1.resolve_left z)
          rw [q2] at q3; exact absurd q3 (by decide))]
    · rw [k7_is hk, bd7_some, if_neg (by decide), l7_7 hk, bd_some, u5]
  · subst l2
    have ok := pi_ev pi (show N < 10000 by omega) (show fV p + l < nE p by omega)
    have n0 : ¬ Int32.ofNat l < 0 := by rw [io_nn (by omega)]; exact id
    have nl : ¬ Int32.ofNat (nE p - fV p) ≤ Int32.ofNat l := by rw [io_le (by omega) (by omega)]; omega
    rw [if_neg n0, if_neg n0, l3]
    unfold rd7
    rw [bd_some, sc_3 c, bd_some, if_neg nl, if_neg nl, sc_ev c l (by omega), bd_some, d7_put ok, bd7_some, bd_some, d7_val ok, bd7_some]
    refine ⟨?_, rfl⟩
    show (if (if mA p 37 (fV p + l) = 0 then (0 : Int32) else 1) = 0 ∨ (if mA p 37 (fV p + l) = 0 then (0 : Int32) else 1) = 1 then _ else _) = _
    by_cases z : mA p 37 (fV p + l) = 0
    · simp only [if_pos z, true_or, if_true]
    · simp only [if_neg z, or_true, if_true]
/-- the reference goes through the events -/
theorem g_p96 {r : Int32} {ρ : Nat} (a : SM s p) (pi : PI p N) (hN : N < 1000) (hE : nE p ≤ 400) (hk : k < 64) (hr : r = Int32.ofNat ρ) (hρ : ρ < 100000) : ∀ (d i f : Nat), i + d = nE p → d < f → gX10_past_96 f (Int32.ofNat k) r (lst p k i).2 (lst p k i).1 (Int32.ofNat i) s = gX10_past_154 (lst p k (fR p (r + 1) d i)).2 (lst p k (fR p (r + 1) d i)).1 s := by
  have wf := pi_wf pi
  have w47 : rdF s 47 = some (Int32.ofNat (nE p)) := congrArg some (a.2.2.2.1.trans wf)
  intro d
  induction d with
  | zero =>
    intro i f h0 hf
    obtain ⟨f, rfl⟩ : ∃ g, f = g + 1 := ⟨f - 1, by omega⟩
    have e0 : gX10_past_96 (f + 1) (Int32.ofNat k) r (lst p k i).2 (lst p k i).1 (Int32.ofNat i) s = gX10_past_96_body (gX10_past_96 f) (Int32.ofNat k) r (lst p k i).2 (lst p k i).1 (Int32.ofNat i) s := rfl
    rw [e0]
    unfold gX10_past_96_body
    rw [w47, bd_some, if_pos (by rw [io_le (by omega) (by omega)]; omega)]
    rfl
  | succ d ih =>
    intro i f h0 hf
    obtain ⟨f, rfl⟩ : ∃ g, f = g + 1 := ⟨f - 1, by omega⟩
    have e0 : gX10_past_96 (f + 1) (Int32.ofNat k) r (lst p k i).2 (lst p k i).1 (Int32.ofNat i) s = gX10_past_96_body (gX10_past_96 f) (Int32.ofNat k) r (lst p k i).2 (lst p k i).1 (Int32.ofNat i) s := rfl
    obtain ⟨v1, v2, v3, v4⟩ := a.2.2.2.2.2.2.2 i (by omega)
    obtain ⟨ri, ki, q1, q2, q3, q4, q5⟩ := pi_ev pi (by omega) (show i < nE p by omega)
    have r' := ih (i + 1) f (by omega) (by omega)
    rw [lst_s] at r'
    rw [e0]
    unfold gX10_past_96_body gX10_past_148
    rw [w47, bd_some, if_neg (by rw [io_le (by omega) (by omega)]; omega), ld_34 (by omega), bd_some, v1, fR_s, hr, io_a1 ρ, q1]
    rw [hr, io_a1 ρ] at r'
    by_cases z : ρ < ri
    · rw [if_pos (by rw [io_lt (by omega) (by omega)]; exact z), if_pos (by rw [io_le (by omega) (by omega)]; omega)]
    · rw [if_neg (by rw [io_lt (by omega) (by omega)]; exact z), if_neg (by rw [io_le (by omega) (by omega)]; omega), ld_35 (by omega), bd_some, v2]
      by_cases y : mA p 35 i = Int32.ofNat k
      · rw [if_pos y] at r'
        rw [if_pos y, ld_37 (by omega), bd_some, ld_36 (by omega), bd_some, v3, v4, io_a1]
        exact r'
      · rw [if_neg y] at r'
        rw [if_neg y, io_a1]
        exact r'
end
section
variable {X M j : Nat} {h : Hp} {s : MS} {g : GH} {B K W n : Nat}
theorem law_past (hj : j < 64) (J : JJ X M j h) (x k r : Int32) : OKi (JJ X M (j + 1)) M (M + 39) h (fL_past X x k r (M + 39)) (fX10_past M x k r) := by
  obtain ⟨s, kp, g, K, W, w, mi0, ca, ap, hk⟩ := J
  have mi := mi_B (Nat.le_succ j) mi0
  have fn : FN X M (j + 1) h s := ⟨g, K, W, w, mi, ca, ap, by omega⟩
  have er : ∀ H, MW M H → fX10_past M x k r (pm M H s) = lft M H (gX10_past x k r s) := fun H hw => eX10_past hw x k r s
  have no1 : ((x < 0 ∨ (5 : Int32) ≤ x) ∨ ¬ isK k) → OKi (JJ X M (j + 1)) M (M + 39) h (fL_past X x k r (M + 39)) (fX10_past M x k r) := by
    intro z
    refine ok_i (k := 1) (h1 := h) (s' := uF s 0 1) (b := 0) ?_ er ?_ mF_h0 (fun q => absurd q (by decide)) kp (fn_F fn)
    · unfold fL_past fX9_past
      rw [if_pos (q_kX w), if_pos (q_kX w), c_swk0 w z, bdx_inr, bdc_inr, if_pos rfl]
    · unfold gX10_past gX10_past_15 gX10_past_20
      rcases nd_cs x with y | ⟨n, hn, rfl⟩
      · rw [g_noN y, bdm_some, if_pos rfl, g_bad1, bdm_some, if_neg (by decide)]
      · have e := z.resolve_left (fun q => by
          rcases q with q | q
          · rw [io_nn (by omega)] at q; exact q
          · exact i5_le hn q)
        rw [g_isN hn, bdm_some, if_neg (by decide), (ky0 (h := h) e).2, bdm_some, if_pos rfl, g_bad1, bdm_some, if_neg (by decide)]
  rcases nd_cs x with z | ⟨n, hn, rfl⟩
  · exact no1 (Or.inl z)
  · rcases isK_cs k with z | ⟨i, hi, rfl⟩
    · exact no1 (Or.inr z)
    · by_cases u : mA s 1 n = 0
      · refine ok_i (k := 2) (h1 := h) (s' := uF (uF s 0 0) 0 2) (b := 0) ?_ er ?_ mF_h0 (fun q => absurd q (by decide)) kp (fn_F (fn_F fn))
        · unfold fL_past fX9_past
          rw [if_pos (q_kX w), if_pos (q_kX w), c_swk1 w hn hi u, bdx_inr, bdc_inr, if_neg (by decide), if_pos rfl]
        · unfold gX10_past gX10_past_20 gX10_past_42
          rw [g_isN hn, bdm_some, if_neg (by decide), (ky1 (h := h) (isK_of hi)).2, bdm_some, if_neg (by decide), g_bad0, bdm_some, if_pos rfl, ld_1 hn, bd_some, mA_uF, if_pos u, g_bad1, bdm_some, if_neg (by decide)]
      · have hu := (mi.2.1 n hn).1.resolve_left u
        obtain ⟨sc, pi, c18, res⟩ := rd_set w mi hn hu (by omega) (ap n hn hu)
        obtain ⟨s2, a1, a2, a3, a4, a5⟩ := fn_work (fn_F (v := 0) (fn_F (v := 0) fn)) hn (by omega)
        have a2' : SM s2 (rp (lgM s n) (cmM s n)) := a2
        clear a2 a3 res
        have sw := q_sw w hn
        have k7 := sw.1
        have g71 : gI h 7 1 (ndA X n + 1) = some (mF (rp (lgM s n) (cmM s n)) 42) := by rw [gI_k k7]; exact congrArg some sc.2.2.1
        have g70 : gI h 7 0 (ndA X n + 1) = some (mF (rp (lgM s n) (cmM s n)) 40) := by rw [gI_k k7]; exact congrArg some sc.2.1
        have red : gX10_past (Int32.ofNat n) (Int32.ofNat i) r s = bd (rdF s2 42) fun z3 => if r < z3 then (gX10_past_73 (Int32.ofNat i) r s2) else (bd (rdF s2 40) fun z4 => if r ≤ z4 then (gX10_past_78 (Int32.ofNat i) r (0 : Int32) s2) else (gX10_past_73 (Int32.ofNat i) r s2)) := by
          unfold gX10_past gX10_past_20 gX10_past_42
          rw [g_isN hn, bdm_some, if_neg (by decide), (ky1 (h := h) (isK_of hi)).2, bdm_some, if_neg (by decide), g_bad0, bdm_some, if_pos rfl, ld_1 hn, bd_some, mA_uF, if_neg u, g_bad0, bdm_some, if_pos rfl, a1, bdm_some]
        have fw : fL_past X (Int32.ofNat n) (Int32.ofNat i) r (M + 39) h = bdc (if r < mF (rp (lgM s n) (cmM s n)) 42 then (fX9_past_26 h) else (if r ≤ mF (rp (lgM s n) (cmM s n)) 40 then (bd2 (fX7_latestEventOfKey (ndA X n + 1) (Int32.ofNat i) r h) fun z7 h7 => if hK h7 (ndA X n + 1) = some (7, 0) then (bd2 (fX7_wasThere (ndA X n + 1) (Int32.ofNat i) z7 h7) fun z8 h8 => if z8 = 0 then (some (.inr 3, h8)) else (if hK h8 (ndA X n + 1) = some (7, 0) then (bd2 (fX7_valueThen (ndA X n + 1) (Int32.ofNat i) z7 h8) fun z10 h10 => some (.inl z10, h10)) else none)) else none) else (fX9_past_26 h))) (fun z1 h1 => bd (stL h1 12 (M + 39) (0 : Int32) (z1.toInt64)) fun h2 => some ((0 : Int32), h2)) (fun k h1 => if k = 0 then some ((1 : Int32), h1) else (if k = 1 then some ((2 : Int32), h1) else (if k = 2 then some ((3 : Int32), h1) else (if k = 3 then some ((4 : Int32), h1) else (none))))) := by
          unfold fL_past fX9_past
          rw [if_pos (q_kX w), if_pos (q_kX w), c_swk w hn hi hu, bdx_inl, onR_some, g71, bd_some, g70, bd_some, if_pos k7]
        have hE := sc.1
        have lat : ∀ r', fX7_firstEventFrom (ndA X n + 1) r' h = fX7_firstEventFrom (ndA X n + 1) r' h := fun _ => rfl
        have core : mF (rp (lgM s n) (cmM s n)) 42 ≤ r → r ≤ mF (rp (lgM s n) (cmM s n)) 40 → ∃ ρ m y, r = Int32.ofNat ρ ∧ ρ < 100000 ∧ fR (rp (lgM s n) (cmM s n)) (r + 1) (nE (rp (lgM s n) (cmM s n))) 0 = m ∧ fX7_latestEventOfKey (ndA X n + 1) (Int32.ofNat i) r h = some (y, h) ∧ fX7_wasThere (ndA X n + 1) (Int32.ofNat i) y h = some (if (lst (rp (lgM s n) (cmM s n)) i m).1 = 0 then 0 else 1, h) ∧ fX7_valueThen (ndA X n + 1) (Int32.ofNat i) y h = some ((lst (rp (lgM s n) (cmM s n)) i m).2, h) := by
          intro r1 r2
          obtain ⟨⟨R, C, p1, p2, p3, p4, p5⟩, _⟩ := id pi
          have r0 : 0 ≤ r := Int32.le_trans (by rw [p3, io_nl (by have := p5.2.1; omega)]; trivial) r1
          have ri := io_of r0
          have rB : r.toNatClampNeg ≤ R := by
            have := r2
            rw [ri, p1, io_le (Int32.toNatClampNeg_lt _) (by have := p5.2.1; omega)] at this
            exact this
          have rC : C ≤ r.toNatClampNeg := by
            have := r1
            rw [ri, p3, io_le (by have := p5.2.1; omega) (Int32.toNatClampNeg_lt _)] at this
            exact this
          have Rb := p5.2.1
          generalize r.toNatClampNeg = ρ at *
          have cr : mF (rp (lgM s n) (cmM s n)) 42 < r + 1 := by
            rw [ri, p3, io_a1, io_lt (by omega) (by omega)]; omega
          have cut := fR_cut cr
          have bnd := fR_le (p := rp (lgM s n) (cmM s n)) (r := r + 1) (nE (rp (lgM s n) (cmM s n)) - fV (rp (lgM s n) (cmM s n))) (fV (rp (lgM s n) (cmM s n)))
          have fl := fV_le (rp (lgM s n) (cmM s n))
          have e := c7_fef (r := r + 1) sc pi (by omega) (nE (rp (lgM s n) (cmM s n)) - fV (rp (lgM s n) (cmM s n))) 0 LF (by omega) (LF_lt (by omega))
          rw [Nat.add_zero] at e
          obtain ⟨y, y1, y2⟩ := c7_lat sc pi (by omega) hi (fR (rp (lgM s n) (cmM s n)) (r + 1) (nE (rp (lgM s n) (cmM s n)) - fV (rp (lgM s n) (cmM s n))) (fV (rp (lgM s n) (cmM s n))) - fV (rp (lgM s n) (cmM s n))) LF (by omega) (LF_lt (by omega))
          obtain ⟨w1, w2⟩ := c7_was sc pi (by omega) hi (by omega) y2
          rw [show fV (rp (lgM s n) (cmM s n)) + (fR (rp (lgM s n) (cmM s n)) (r + 1) (nE (rp (lgM s n) (cmM s n)) - fV (rp (lgM s n) (cmM s n))) (fV (rp (lgM s n) (cmM s n))) - fV (rp (lgM s n) (cmM s n))) = fR (rp (lgM s n) (cmM s n)) (r + 1) (nE (rp (lgM s n) (cmM s n)) - fV (rp (lgM s n) (cmM s n))) (fV (rp (lgM s n) (cmM s n))) by omega] at w1 w2
          refine ⟨ρ, _, y, ri, by omega, cut, ?_, r7_of (fun t => eX7_wasThere sw (Int32.ofNat i) y t) w1, r7_of (fun t => eX7_valueThen sw (Int32.ofNat i) y t) w2⟩
          refine r7_of (fun t => eX7_latestEventOfKey sw (Int32.ofNat i) r t) ?_
          unfold gX7_latestEventOfKey gX7_firstEventFrom
          rw [show (0 : Int32) = Int32.ofNat 0 from rfl, e, bd7_some]
          exact y1
        generalize rp (lgM s n) (cmM s n) = p at *
        have r42 : rdF s2 42 = some (mF p 42) := congrArg some a2'.2.2.1
        have r40 : rdF s2 40 = some (mF p 40) := congrArg some a2'.1
        rw [r42, bd_some, r40, bd_some] at red
        have no3 : (r < mF p 42 ∨ ¬ r ≤ mF p 40) → OKi (JJ X M (j + 1)) M (M + 39) h (fL_past X (Int32.ofNat n) (Int32.ofNat i) r (M + 39)) (fX10_past M (Int32.ofNat n) (Int32.ofNat i) r) := by
          intro z
          refine ok_i (k := 3) (h1 := h) (s' := uF s2 0 3) (b := 0) ?_ er ?_ mF_h0 (fun q => absurd q (by decide)) kp (fn_F a4)
          · rw [fw]
            unfold fX9_past_26
            by_cases v : r < mF p 42
            · rw [if_pos v, bdc_inr, if_neg (by decide), if_neg (by decide), if_pos rfl]
            · rw [if_neg v, if_neg (z.resolve_left v), bdc_inr, if_neg (by decide), if_neg (by decide), if_pos rfl]
          · rw [red]
            unfold gX10_past_73 gX10_past_78
            by_cases v : r < mF p 42
            · rw [if_pos v, g_bad1, bdm_some, if_neg (by decide)]
            · rw [if_neg v, if_neg (z.resolve_left v), g_bad1, bdm_some, if_neg (by decide)]
        by_cases v : r < mF p 42
        · exact no3 (Or.inl v)
        · by_cases v2 : r ≤ mF p 40
          · obtain ⟨ρ, m, y, ri, ρB, fm, l1, l2, l3⟩ := core (Int32.not_lt.mp v) v2
            have a6 : SM (uF s2 0 0) p := sm_F0 a2'
            rw [if_neg v, if_pos v2, l1, bd2_some, if_pos k7, l2, bd2_some] at fw
            have red2 : gX10_past (Int32.ofNat n) (Int32.ofNat i) r s = gX10_past_154 (lst p i m).2 (lst p i m).1 (uF s2 0 0) := by
              rw [red, if_neg v, if_pos v2]
              unfold gX10_past_78
              rw [g_bad0, bdm_some, if_pos rfl]
              have e := g_p96 (k := i) a6 pi (by omega) hE hi ri ρB (nE p) 0 LF (Nat.zero_add _) (LF_lt (by omega))
              rw [fm] at e
              exact e
            unfold gX10_past_154 gX10_past_165 at red2
            by_cases z : (lst p i m).1 = 0
            · rw [if_pos z, if_pos rfl, bdc_inr, if_neg (by decide), if_neg (by decide), if_neg (by decide), if_pos rfl] at fw
              rw [if_pos z, g_bad1, bdm_some, if_neg (by decide)] at red2
              exact ok_i (k := 4) (h1 := h) (s' := uF (uF s2 0 0) 0 4) (b := 0) fw er red2 mF_h0 (fun q => absurd q (by decide)) kp (fn_F (fn_F a4))
            · rw [if_neg z, if_neg (by decide), if_pos k7, l3, bd2_some, bdc_inl] at fw
              rw [if_neg z, g_bad0, bdm_some, if_pos rfl] at red2
              exact ok_iv (h1 := h) (s' := uF (uF s2 0 0) 0 0) fw er red2 mF_h0 kp (fn_F (fn_F a4))
          · exact no3 (Or.inr v2)
end
