/-! ===== propose ===== -/
def PN (h : Hp) (o : Option (Int32 × Hp)) : Prop := ∀ v h', o = some (v, h') → v ≠ 0 → P10 h h'
section
variable {h h0 h1 : Hp} {x0 x1 : Nat}
theorem pn_of {o : Option (Int32 × Hp)} (p : PF h o) : PN h o := fun v h' e _ => p v h' e
theorem pn_bd {β : Type} {o : Option β} {k : β → Option (Int32 × Hp)} (f : ∀ x, PN h (k x)) : PN h (bd o k) := by
  cases o with
  | none => exact pn_of pf_none
  | some v => exact f v
theorem pn_ite {c : Prop} [Decidable c] {a b : Option (Int32 × Hp)} (x : PN h a) (y : PN h b) : PN h (if c then a else b) := by
  split
  · exact x
  · exact y
theorem pn_onR {o : Option Nat} {n : Option (Int32 × Hp)} {k : Nat → Option (Int32 × Hp)} (x : PN h n) (y : ∀ a, PN h (k a)) : PN h (onR o n k) := by
  cases o with
  | none => exact x
  | some a => exact y a
theorem pn_bd2 {β : Type} {o : Option (β × Hp)} {k : β → Hp → Option (Int32 × Hp)} (f : PF h o) (g : ∀ v h2, P10 h h2 → PN h (k v h2)) : PN h (bd2 o k) := by
  cases o with
  | none => exact pn_of pf_none
  | some v => exact g v.1 v.2 (f v.1 v.2 rfl)
theorem pn_nwO {c : Nat} {K : Hp → Option (Int32 × Hp)} (p : P10 h h1) (f : ∀ h2, P10 h h2 → PN h (K h2)) : PN h (bd (nwO h1 c) K) := f _ (p10_trans p ⟨Nat.le_succ _, fun x hx => if_neg (Nat.ne_of_lt hx)⟩)
theorem pf_pow (p : P10 h0 h) : PF h0 (fX1_powerFails x0 h) := by
  unfold fX1_powerFails
  repeat' first | exact pf_none | exact pf_some (by assumption) | refine pf_pI (by assumption) (by decide) (fun _ _ => ?_) | refine pf_bd (fun _ => ?_) | refine pf_ite ?_ ?_ | refine pf_onR ?_ (fun _ => ?_)
theorem pf_recE {y : Int32} {x2 : Nat} (p : P10 h0 h) : PF h0 (fX1_recordEntry x0 y x2 h) := by
  unfold fX1_recordEntry
  repeat' first | exact pf_none | exact pf_some (by assumption) | refine pf_bd2 (pf_pow (by assumption)) (fun _ _ _ => ?_) | refine pf_pI (by assumption) (by decide) (fun _ _ => ?_) | refine pf_stR (by assumption) (fun _ _ => ?_) | refine pf_bd (fun _ => ?_) | refine pf_ite ?_ ?_ | refine pf_onR ?_ (fun _ => ?_)
theorem pf_init2 {y : Int32} {x2 : Nat} (p : P10 h0 h) : PF h0 (fX2_init x0 y x2 h) := by
  unfold fX2_init
  repeat' first | exact pf_none | exact pf_some (by assumption) | refine pf_pI (by assumption) (by decide) (fun _ _ => ?_) | refine pf_pR (by assumption) (fun _ _ => ?_) | refine pf_bd (fun _ => ?_)
theorem pn_surv {z : Int32} (p : P10 h0 h) : PN h0 (bd2 (fX5_survives x0 z h) fun z12 h12 => if z12 = 0 ∨ z12 = 1 then some (z12, h12) else none) := by
  intro v h' e hv
  obtain ⟨z12, h12, e1, e2⟩ := ob2 e
  unfold fX5_survives at e1
  by_cases hz : z = 0
  · rw [if_pos hz] at e1
    split at e1
    · obtain ⟨_, h3, _, e3⟩ := ob2 e1
      rw [if_pos (Or.inl hz)] at e3
      have q1 := (Prod.mk.inj (Option.some.inj e3)).1
      rw [if_pos (Or.inl (q1 ▸ hz))] at e2
      have q2 := (Prod.mk.inj (Option.some.inj e2)).1
      exact absurd (q2.symm.trans (q1.symm.trans hz)) hv
    · cases e1
  · rw [if_neg hz] at e1
    split at e1
    · have q1 := (Prod.mk.inj (Option.some.inj e1)).2
      split at e2
      · have q2 := (Prod.mk.inj (Option.some.inj e2)).2
        rw [← q2, ← q1]; exact p
      · cases e2
    · cases e1
theorem pn_len (p : P10 h0 h) : PN h0 (fX5_lengthenLog x0 x1 h) := by
  unfold fX5_lengthenLog
  repeat' first | exact pn_of pf_none | exact pn_of (pf_some (by assumption)) | exact pn_surv (by assumption) | refine pn_bd2 (pf_init2 (by assumption)) (fun _ _ _ => ?_) | refine pn_bd2 (pf_recE (by assumption)) (fun _ _ _ => ?_) | refine pn_nwO (by assumption) (fun _ _ => ?_) | refine pn_bd (fun _ => ?_) | refine pn_ite ?_ ?_ | refine pn_onR ?_ (fun _ => ?_)
end
section
variable {X M j : Nat} {h : Hp} {s : MS} {g : GH} {B K W n : Nat}
theorem law_propose (hj : j < 64) (J : JJ X M j h) (x k a b : Int32) : OKi (JJ X M (j + 1)) M (M + 39) h (fL_propose X x k a b (M + 39)) (fX10_propose M x k a b) := by
  obtain ⟨s, kp, g, K, W, w, mi0, ca, ap, hk⟩ := J
  have hM := rx_M w
  have hz : M + 40 ≤ hZ h := w.1.2.2.2.1
  have mi := mi_B (Nat.le_succ j) mi0
  have fn : FN X M (j + 1) h s := ⟨g, K, W, w, mi, ca, ap, by omega⟩
  have er : ∀ H, MW M H → fX10_propose M x k a b (pm M H s) = lft M H (gX10_propose x k a b s) := fun H hw => eX10_propose hw x k a b s
  rcases nd_cs x with z | ⟨n, hn, rfl⟩
  · refine ok_i (k := 1) (h1 := h) (s' := uF s 0 1) (b := 0) ?_ er ?_ mF_h0 (fun q => absurd q (by decide)) kp (fn_F fn)
    · unfold fL_propose fX9_propose
      rw [if_pos (q_kX w), if_pos (q_kX w), c_nodeNo w z, bdx_inr, bdc_inr, if_pos rfl]
    · unfold gX10_propose gX10_propose_13
      rw [g_noN z, bdm_some, if_pos rfl, g_bad1, bdm_some, if_neg (by decide)]
  · have n1 := (mi.2.1 n hn).1
    have ndz := rx_z w hn
    obtain ⟨c, hc⟩ : ∃ c, c = mF s 28 := ⟨_, rfl⟩
    obtain ⟨d, hd⟩ : ∃ d, d = mF s 29 := ⟨_, rfl⟩
    obtain ⟨e, he⟩ : ∃ e, e = mF s 30 := ⟨_, rfl⟩
    obtain ⟨f, hf⟩ : ∃ f, f = mF s 31 := ⟨_, rfl⟩
    have kX : hK (nO h 0) X = some (9, 0) := by rw [hK_nO, if_neg (by omega)]; exact q_kX w
    have mo := w.2.2.2.2
    have r3 : gI (nO h 0) 9 3 X = some c := by rw [gI_k kX, hI_nO, if_neg (by omega), mo.1, hc]
    have r4 : gI (nO h 0) 9 4 X = some d := by rw [gI_k kX, hI_nO, if_neg (by omega), mo.2.1, hd]
    have r5 : gI (nO h 0) 9 5 X = some e := by rw [gI_k kX, hI_nO, if_neg (by omega), mo.2.2.1, he]
    have r6 : gI (nO h 0) 9 6 X = some f := by rw [gI_k kX, hI_nO, if_neg (by omega), mo.2.2.2, hf]
    obtain ⟨y, y01, y1, yc, yg⟩ := c_legal (h := h) (k := k) (a := a) (b := b) (c := c) (d := d) (e := e) (f := f)
    have c8 : Ch h (cCm h k a b c d e f) (fun _ => False) := ch_cm
    have k8 : hK (cCm h k a b c d e f) (hZ h) = some (0, 0) := k_cm
    have i8 : ∀ i, i < 7 → ∀ t, hI (cCm h k a b c d e f) (gq 0 i) (hZ h) = ro8 t k a b c d e f (i + 1) := fun i hi t => i_cm hi
    have z8 : hZ (cCm h k a b c d e f) = hZ h + 1 := rfl
    have fw : fL_propose X (Int32.ofNat n) k a b (M + 39) h = bdc (bd2 (fX0_isLegal (hZ h) (cCm h k a b c d e f)) fun z9 h9 => if z9 = 0 then (some (.inr 2, h9)) else (bdx (fX9_requireWorkingLeader (ndA X n) h9) fun _ h11 => if hK h11 (ndA X n) = some (5, 0) then (bd2 (fX5_lengthenLog (ndA X n) (hZ h) h11) fun z12 h12 => if z12 = 0 then (some (.inl (0 : Int32), h12)) else (bd (gR h12 5 0 (ndA X n)) fun z14 => onR z14 (none) fun a15 => bd (gI h12 1 2 a15) fun z16 => some (.inl z16, h12))) else none)) (fun z1 h1 => bd (stL h1 12 (M + 39) (0 : Int32) (z1.toInt64)) fun h2 => some ((0 : Int32), h2)) (fun k h1 => if k = 0 then some ((1 : Int32), h1) else (if k = 2 then some ((2 : Int32), h1) else (if k = 1 then some ((3 : Int32), h1) else (none)))) := by
      unfold fL_propose fX9_propose
      rw [if_pos (q_kX w), if_pos (q_kX w), c_nodeAt w hn, bdx_inl, onR_some]
      unfold nwO
      rw [bd_some, r3, bd_some, r4, bd_some, r5, bd_some, r6, bd_some, c_cm, bd2_some, if_pos k8]
    have l1 : ∀ i v, i ≠ 0 → mF (uF s 0 v) i = mF s i := fun i v hi => mF_n _ _ hi
    have yg1 : gX10_isRight k a b (uF s 0 0) = some (y, uF s 0 0) := yg _ (by rw [l1 _ _ (by decide), hc]) (by rw [l1 _ _ (by decide), he])
    rw [yc, bd2_some] at fw
    clear yc yg r3 r4 r5 r6 kX
    generalize cCm h k a b c d e f = h8 at *
    have cc8 : CC X n h h8 := cc_none c8
    have w8 : RX X M h8 s g K := rx_new0 w c8
    have ap8 : AP X h8 s := ap_cc (n := n) ap cc8 (ex_refl n s) hn hM hz (fun hu => by
      rw [(c8.2 (ndA X n) (by omega) id).2.1]; exact ap n hn hu)
    have kp8 : KP M s h8 := kp_cc kp cc8 hn hM hz
    have fn8 : FN X M (j + 1) h8 s := ⟨g, K, W, w8, mi, ca, ap8, by omega⟩
    rcases y01 with y0 | y0
    · subst y0
      rw [if_pos rfl, bdc_inr, if_neg (by decide), if_pos rfl] at fw
      refine ok_i (k := 2) (h1 := h8) (s' := uF (uF s 0 0) 0 2) (b := 0) fw er ?_ mF_h0 (fun q => absurd q (by decide)) kp8 (fn_F (fn_F fn8))
      unfold gX10_propose gX10_propose_13 gX10_propose_37
      rw [g_isN hn, bdm_some, if_neg (by decide), g_bad0, bdm_some, if_pos rfl, yg1, bdm_some, if_pos rfl, g_bad1, bdm_some, if_neg (by decide)]
    · subst y0
      have lg := y1 rfl
      rw [if_neg (by decide)] at fw
      by_cases z : mA s 1 n = 1 ∧ mA s 8 n = 2
      · obtain ⟨hu, h2⟩ := z
        have lB := mi_ls mi0 n
        have u : ¬ mA s 1 n = 0 := by rw [hu]; decide
        rw [c_lead1 w8 mi hn (by omega) hu h2, bdx_inl, if_pos (q_k5 w8 hn)] at fw
        have fn3 : FN X M (j + 1) h8 (uF (uF (uF s 0 0) 0 0) 0 0) := fn_F (fn_F (fn_F fn8))
        have l12 : ¬ mA s 5 n = (1200 : Int32) := by
          rw [mi_5 mi hn, show (1200 : Int32) = Int32.ofNat 1200 from rfl, io_eq (by omega) (by omega)]
          omega
        have eg : gX10_propose (Int32.ofNat n) k a b s = bdm (gX10_adds (Int32.ofNat n) k a b c d e f (uF (uF (uF s 0 0) 0 0) 0 0)) fun z6 s6 => if z6 = 0 then (some ((0 : Int32), s6)) else (bd (ldA s6 11 5 (Int32.ofNat n)) fun z7 => some (z7, s6)) := by
          unfold gX10_propose gX10_propose_13 gX10_propose_37 gX10_propose_81
          rw [g_isN hn, bdm_some, if_neg (by decide), g_bad0, bdm_some, if_pos rfl, yg1, bdm_some, if_neg (by decide), g_bad0, bdm_some, if_pos rfl, ld_1 hn, bd_some, mA_uF, mA_uF, if_neg u, ld_8 hn, bd_some, mA_uF, mA_uF, if_pos h2, ld_5 hn, bd_some, mA_uF, mA_uF, if_neg l12, g_bad0, bdm_some, if_pos rfl]
          have r28 : rdF (uF (uF (uF s 0 0) 0 0) 0 0) 28 = some c := by unfold rdF; rw [mF_n _ _ (by decide), mF_n _ _ (by decide), mF_n _ _ (by decide), hc]
          have r29 : rdF (uF (uF (uF s 0 0) 0 0) 0 0) 29 = some d := by unfold rdF; rw [mF_n _ _ (by decide), mF_n _ _ (by decide), mF_n _ _ (by decide), hd]
          have r30 : rdF (uF (uF (uF s 0 0) 0 0) 0 0) 30 = some e := by unfold rdF; rw [mF_n _ _ (by decide), mF_n _ _ (by decide), mF_n _ _ (by decide), he]
          have r31 : rdF (uF (uF (uF s 0 0) 0 0) 0 0) 31 = some f := by unfold rdF; rw [mF_n _ _ (by decide), mF_n _ _ (by decide), mF_n _ _ (by decide), hf]
          rw [r28, bd_some, r29, bd_some, r30, bd_some, r31, bd_some]
        have hu3 : mA (uF (uF (uF s 0 0) 0 0) 0 0) 1 n = 1 := hu
        have h23 : mA (uF (uF (uF s 0 0) 0 0) 0 0) 8 n = 2 := h2
        have lB3 : lsM (uF (uF (uF s 0 0) 0 0) 0 0) n ≤ j := lB
        have t0 : mF (uF (uF (uF s 0 0) 0 0) 0 0) 0 = 0 := mF_h0
        clear u l12 lB h2 hu n1 ca ap ap8 fn8 fn w8 w mi mi0 hc hd he hf mo yg1 l1
        generalize uF (uF (uF s 0 0) 0 0) 0 0 = s3 at *
        obtain ⟨g, K, W, w, mi, ca, ap, hk⟩ := fn3
        obtain ⟨h', a1, a2, a3, a4⟩ := j_len (c := hZ h) (k := k) (a := a) (b := b) (x := c) (y := d) (z := e) (v := f) w hn (mi_5 mi hn) (by omega) ⟨by omega, by omega⟩ k8 (fun i hi => i8 i hi _)
        have t2 : 0 ≤ mA s3 2 n := (mi.2.1 n hn).2.1
        by_cases p : mA s3 10 n = 0
        · rw [if_pos p] at a1 a4
          rw [if_pos p, if_pos p] at a2
          rw [a1, bd2_some, if_pos rfl, bdc_inl] at fw
          refine ok_iv (h1 := h') (s' := oD n (oF (mA s3 2 n) k a b c d e f s3)) (b := 0) fw er ?_ ?_ (kp_cc kp8 a3 hn hM (by omega)) (fn_call ca ap a3 (ex_trans ex_oF ex_oD) hn hM (by omega) a4 (mi_oDf (mi_down mi hn)) (gle_refl g) (fun e => down_ap e) hk)
          · rw [eg, a2, bdm_some, if_pos rfl]
          · exact t0
        · rw [if_neg p] at a1 a4
          rw [if_neg p, if_neg p] at a2
          have pq := pn_len (p10_refl h8) _ _ a1 (by decide)
          rw [a1, bd2_some, if_neg (by decide), q_disk a4 hn, bd_some, onR_some, q_last a4 hn, bd_some, bdc_inl] at fw
          obtain ⟨m5, gl⟩ := mi_push (e := ro8 (mA s3 2 n) k a b c d e f) mi hn h23 (by omega) (by omega) rfl (lg_row t2 lg)
          have a5 := rx_gl a4 gl (fun _ => rfl)
          have m6 := mi_oEf (t := mA s3 2 n) (k := k) (a := a) (b := b) (x := c) (y := d) (z := e) (w := f) m5
          refine ok_iv (h1 := h') (s' := oE n (lsM s3 n + 1) (ro8 (mA s3 2 n) k a b c d e f) (oP n (oF (mA s3 2 n) k a b c d e f s3))) (b := _) fw er ?_ ?_ (kp_cc kp8 a3 hn hM (by omega)) (fn_call ca ap a3 (ex_trans ex_oF (ex_trans ex_oP ex_oE)) hn hM (by omega) a5 m6 gl (fun _ => ?_) hk)
          · rw [eg, a2, bdm_some, if_neg (by decide), ld_5 hn, bd_some]
          · rw [mF_oE, mF_oP]; exact t0
          · rw [pq.2 _ (by omega), mA_oEx _ _ _ (by decide) (Or.inl (by decide)), mA_oP _ _ _ (by decide), mA_oFx _ _ (by decide)]
            exact ap n hn hu3
      · rw [c_lead0 w8 hn z n1, bdx_inr, bdc_inr, if_neg (by decide), if_neg (by decide), if_pos rfl] at fw
        refine ok_i (k := 3) (h1 := h8) (s' := uF (uF (uF s 0 0) 0 0) 0 3) (b := 0) fw er ?_ mF_h0 (fun q => absurd q (by decide)) kp8 (fn_F (fn_F (fn_F fn8)))
        unfold gX10_propose gX10_propose_13 gX10_propose_37 gX10_propose_76 gX10_propose_81
        rw [g_isN hn, bdm_some, if_neg (by decide), g_bad0, bdm_some, if_pos rfl, yg1, bdm_some, if_neg (by decide), g_bad0, bdm_some, if_pos rfl, ld_1 hn, bd_some, mA_uF, mA_uF]
        by_cases u : mA s 1 n = 0
        · rw [if_pos u, g_bad1, bdm_some, if_neg (by decide)]
        · rw [if_neg u, ld_8 hn, bd_some, mA_uF, mA_uF, if_neg (fun q => z ⟨n1.resolve_left u, q⟩), g_bad1, bdm_some, if_neg (by decide)]
end
