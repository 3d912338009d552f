/-! ===== committed entries are applied ===== -/
theorem i32_eq7 {e e' : Nat → Int32} (h : ∀ j, j < 8 → e j = e' j) : True := trivial
theorem c_like {X M : Nat} {h : Hp} {a b : Nat} {e : Nat → Int32} (ea : EV X M h a e) (eb : EV X M h b e) : fX2_isLike a b h = some (1, h) := by
  obtain ⟨_, ka, ta, ca, ra, _, kca, fa⟩ := ea
  obtain ⟨_, kb, tb, cb, rb, _, kcb, fb⟩ := eb
  unfold fX2_isLike fX0_isLike
  have g : ∀ j, j < 7 → hI h (gq 0 j) ca = hI h (gq 0 j) cb := fun j hj => by rw [fa j hj, fb j hj]
  simp only [gI_k ka, gI_k kb, gR_k ka, gR_k kb, bd_some, ta, tb, if_true, ra, rb, onR_some, if_pos kca, gI_k kca, gI_k kcb, g 0 (by decide), g 1 (by decide), g 2 (by decide), g 3 (by decide), g 4 (by decide), g 5 (by decide), g 6 (by decide), bd2_some]
  rw [if_neg (by decide)]
section
variable {X M : Nat} {h : Hp} {s : MS} {g : GH} {B K W n : Nat}
theorem rx_seen {e i k T : Nat} {x : Nat → Nat → Int32} (w : RX X M h s g K) (c : CPM g x T k) (h1 : 1 ≤ i) (h2 : i ≤ k) (ev : EV X M h e (x i)) : RX X M (tR h (X + 5) i (some e)) s g K ∧ Ch h (tR h (X + 5) i (some e)) (fun a => a = X + 5) := by
  obtain ⟨w1, w2, w3, w4, w5⟩ := w
  have hM : M = X + 92 := w1.2.2.2.2
  have hZ : M + 40 ≤ hZ h := w1.2.2.2.1
  have ch : Ch h (tR h (X + 5) i (some e)) (fun a => a = X + 5) := ch_tR rfl
  have fr : Fr X M h (tR h (X + 5) i (some e)) := fr_ch ch (fun a q => by omega)
  have sa : ∀ a, a ≠ X + 5 → SA h (tR h (X + 5) i (some e)) a := fun a ha => sa_tR ha
  refine ⟨⟨st_sa w1 ch.1 (fun a h1 h2 => ⟨fun _ _ => rfl, rfl, fun z => by have := sa a (by omega); exact this.2.2.2.2.2.2⟩), fun v hv => nd_fr fr (gle_refl g) (fun b h1 h2 => sa b (by unfold ndA at *; omega)) (fun _ _ _ => rfl) (fun _ _ _ _ => rfl) (fun _ => rfl) (w2 v hv), ml_fr fr (gle_refl g) (sa _ (by omega)) (sa _ (by omega)) (fun _ _ _ _ => rfl) rfl rfl w3, ⟨w4.1, w4.2.1, fun j q hj hq => ?_⟩, w5⟩, ch⟩
  rw [aR_tR] at hq
  by_cases z : j = i
  · rw [if_pos ⟨rfl, z⟩] at hq
    have : e = q := Option.some.inj hq
    subst this; subst z
    exact ⟨x, T, k, c, h1, h2, ev_fr fr ev⟩
  · rw [if_neg (fun u => z u.2)] at hq
    obtain ⟨y, T', k', v1, v2, v3, v4⟩ := w4.2.2 j q hj hq
    exact ⟨y, T', k', v1, v2, v3, ev_fr fr v4⟩
theorem c_seen {e i : Nat} (w : RX X M h s g K) (mi : MI s g B K W) (hB : B ≤ 1200) (h1 : 1 ≤ i) (h2 : i ≤ cmM s n) (ev : EV X M h e (lgM s n i)) : ∃ h', fX8_seeApplied (X + 3) (Int32.ofNat i) e h = some ((), h') ∧ RX X M h' s g K ∧ Ch h h' (fun a => a = X + 5) := by
  have lsB := mi_ls mi n
  obtain ⟨c1, c2, c3⟩ := mi_cm mi n
  unfold fX8_seeApplied
  have ld := ldR_k (h := h) (q_kA w) (show i < 1201 by omega) (by decide)
  rw [if_neg (by rw [io_nn (by omega)]; exact id), q_appl w, bd_some, onR_some, lnA_k (q_kA w), bd_some, if_pos (by rw [io_lt (by omega) (by omega)]; omega), bd_some, onR_some, ld, bd_some]
  cases o : aR h (X + 5) i with
  | none =>
    obtain ⟨r1, r2⟩ := rx_seen w c3 h1 h2 ev
    refine ⟨_, ?_, r1, r2⟩
    show (bd (some (some (X + 5))) fun z14 => onR z14 none fun a15 => bd (stR h 14 2 a15 (Int32.ofNat i) e) fun h16 => some ((), h16)) = _
    rw [bd_some, onR_some, stR_k (q_kA w) (show i < 1201 by omega) (by decide) ev.2.1, bd_some]
  | some q =>
    obtain ⟨x, T, k, v1, v2, v3, v4⟩ := w.2.2.2.1.2.2 i q (by omega) o
    have e1 : x i = lgM s n i := mi_safe mi v1 c3 h1 v3 h2
    rw [e1] at v4
    refine ⟨h, ?_, w, ch_refl _ _⟩
    rw [onR_some, if_pos v4.2.1, c_like v4 ev, bd2_some, if_neg (by decide)]
/-- node n's store stands at ap -/
def APs (X : Nat) (h : Hp) (s : MS) (n ap : Nat) : Prop := hI h (gq 5 10) (ndA X n) = Int32.ofNat ap ∧ bsM s n ≤ ap ∧ ap ≤ cmM s n ∧ SC (rdS (ndA X n + 1) h) (rp (lgM s n) ap) ∧ ∀ i, (mA s 7 n).toNatClampNeg < i → i ≤ ap → aI h (ndA X n + 10) i = rr (lgM s n) i
theorem ap_of (w : RX X M h s g K) (mi : MI s g B K W) (hn : n < 5) (hu : mA s 1 n = 1) : ∃ ap, APs X h s n ap := by
  obtain ⟨ap, x, T, a1, a2, a3, a4, a5, a6⟩ := (rx_n w hn).2.2.2 hu
  obtain ⟨c1, c2, c3⟩ := mi_cm mi n
  have ag : ∀ j, 1 ≤ j → j ≤ ap → x j = lgM s n j := fun j h1 h2 => mi_safe mi a4 c3 h1 h2 (by omega)
  exact ⟨ap, a1, a2, a3, by rw [← rp_ag ap ag]; exact a5, fun i h1 h2 => by rw [← rr_ag (fun j e1 e2 => ag j e1 (by omega))]; exact a6 i h1 h2⟩
theorem c_app1 {ap : Nat} {k7 : Nat → Int32 → Hp → Option (Unit × Hp)} (w : RX X M h s g K) (mi : MI s g B K W) (hn : n < 5) (hu : mA s 1 n = 1) (hB : B ≤ 180) (a : APs X h s n ap) (hap : ap < cmM s n) : ∃ h', fX5_applyCommitted_7_body k7 (ndA X n) (Int32.ofNat (ap + 1)) h = k7 (ndA X n) (Int32.ofNat (ap + 2)) h' ∧ CC X n h h' ∧ RX X M h' s g K ∧ APs X h' s n (ap + 1) := by
  have lsB := mi_ls mi n
  obtain ⟨c1, c2, c3⟩ := mi_cm mi n
  obtain ⟨a1, a2, a3, a4, a5⟩ := a
  have hM := rx_M w
  have hz : M + 40 ≤ hZ h := w.1.2.2.2.1
  obtain ⟨e, e1, e2⟩ := (rx_n w hn).2.2.1.2 (ap + 1) (by omega) (by omega)
  have ea := c_entryAt w mi hn (show B ≤ 1200 by omega) (Int32.ofNat (ap + 1))
  rw [mi_4 mi hn, mi_5 mi hn, if_neg (by rw [io_le (by omega) (by omega), io_lt (by omega) (by omega)]; omega), io_cl (by omega), e1] at ea
  obtain ⟨h1, s1, w1, s2⟩ := c_seen (n := n) (i := ap + 1) w mi (by omega) (by omega) (by omega) e2
  have ndz : ndA X n + 14 < hZ h := by unfold ndA; omega
  have sa1 : ∀ x, x < hZ h → x ≠ X + 5 → SA h h1 x := fun x hx hx' => s2.2 x hx hx'
  have fr1 : Fr X M h h1 := fr_ch s2 (fun x q => by omega)
  have ev1 := ev_fr fr1 e2
  obtain ⟨_, ke, te, c, rc, ic, kc, fc⟩ := ev1
  have sc1 : SC (rdS (ndA X n + 1) h1) (rp (lgM s n) ap) := sc_sa (fun j hj => sa1 _ (by omega) (by unfold ndA; omega)) a4
  have pia : PI (rp (lgM s n) ap) ap := pi_rp ap (by omega) (fun j e1 e2 => mi_legal mi e1 (by omega))
  have leg := mi_legal (n := n) mi (i := ap + 1) (by omega) (by omega)
  have co : c < ndA X n + 1 ∨ ndA X n + 1 + 8 < c := by have := ic.2; unfold ndA; omega
  obtain ⟨t', r1, r2⟩ := c7_run (e := lgM s n (ap + 1)) (q_sw w1 hn) sc1 pia (by omega) kc fc co leg
  have r2' : SC t' (rp (lgM s n) (ap + 1)) := r2
  have rres : (pDone (lgM s n (ap + 1)) (rp (lgM s n) ap)).2 = rr (lgM s n) (ap + 1) := rfl
  rw [rres] at r1
  obtain ⟨h2, hh2⟩ : ∃ h2, h2 = ps (ndA X n + 1) h1 t' := ⟨_, rfl⟩
  rw [← hh2] at r1
  have ch2 : Ch h1 h2 (PNd X n) := by rw [hh2]; exact ch_ps (fun j hj => by unfold PNd; omega)
  have sc2 : SC (rdS (ndA X n + 1) h2) (rp (lgM s n) (ap + 1)) := by rw [hh2]; exact sc_rd r2'
  have sw2 : SW (ndA X n + 1) h2 := by rw [hh2]; exact sw_ps (q_sw w1 hn)
  have k2 : ∀ x, hK h2 x = hK h1 x := fun x => by rw [hh2]; rfl
  have hR2 : ∀ f x, hR h2 f x = hR h1 f x := fun f x => by rw [hh2]; rfl
  have z12 : hZ h ≤ hZ h1 := s2.1
  have sp2 : ∀ x, x < ndA X n + 1 ∨ ndA X n + 9 < x → SA h1 h2 x := fun x hx => by rw [hh2]; exact sa_ps (by omega)
  obtain ⟨h3, hh3⟩ : ∃ h3, h3 = tI h2 (ndA X n + 10) (ap + 1) (rr (lgM s n) (ap + 1)) := ⟨_, rfl⟩
  have sc3 : SC (rdS (ndA X n + 1) h3) (rp (lgM s n) (ap + 1)) := by rw [hh3]; exact sc_sa (fun j hj => sa_tI (by omega)) sc2
  have k3 : ∀ x, hK h3 x = hK h1 x := fun x => by rw [hh3, hK_tI]; exact k2 x
  have hR3 : ∀ f x, hR h3 f x = hR h1 f x := fun f x => by rw [hh3, hR_tI]; exact hR2 f x
  have sw3 : SW (ndA X n + 1) h3 := sw_eq (fun x => (k3 x).trans (k2 x).symm) (fun f x => (hR3 f x).trans (hR2 f x).symm) sw2
  have lim : fX7_forgetBeyondLimit (ndA X n + 1) h3 = some ((), h3) := by
    have := eX7_forgetBeyondLimit sw3 (rdS (ndA X n + 1) h3)
    rw [ps_self, c7_limit sc3, lf7_some, ps_self] at this
    exact this
  have ch3 : Ch h1 h3 (PNd X n) := by rw [hh3]; exact ch_trans ch2 (ch_tI (by unfold PNd; omega))
  obtain ⟨h4, hh4⟩ : ∃ h4, h4 = sI h3 (gq 5 10) (ndA X n) (Int32.ofNat (ap + 1)) := ⟨_, rfl⟩
  have ch4 : Ch h1 h4 (PNd X n) := by rw [hh4]; exact ch_trans ch3 (ch_sI (by unfold PNd; omega))
  have k5 : hK h3 (ndA X n) = some (5, 0) := (k3 _).trans (q_k5 w1 hn)
  have ap4 : APs X h4 s n (ap + 1) := by
    refine ⟨by rw [hh4, hI_sI, if_pos ⟨rfl, rfl⟩], by omega, by omega, by rw [hh4]; exact sc_sa (fun j hj => sa_sI (by omega)) sc3, fun i i1 i2 => ?_⟩
    rw [hh4, aI_sI, hh3, aI_tI]
    by_cases z : i = ap + 1
    · rw [if_pos ⟨rfl, z⟩, z]
    · rw [if_neg (fun q => z q.2), (sp2 _ (by omega)).2.2.2.2.1, (sa1 _ (by omega) (by unfold ndA; omega)).2.2.2.2.1]
      exact a5 i i1 (by omega)
  have w4 : RX X M h4 s g K := by
    obtain ⟨d1, d2, d3, d4⟩ := rx_n w1 hn
    have i4 : ∀ f x, x = ndA X n ∨ x = ndA X n + 13 → f ≠ gq 5 10 → hI h4 f x = hI h1 f x := fun f x hx hf => by
      rw [hh4, hI_sI, if_neg (fun q => hf q.1), hh3, hI_tI]
      exact (sp2 x (by omega)).2.1 f
    have ai4 : ∀ x i, x = ndA X n + 11 ∨ x = ndA X n + 12 → aI h4 x i = aI h1 x i := fun x i hx => by
      rw [hh4, aI_sI, hh3, aI_tI, if_neg (by omega), (sp2 x (by omega)).2.2.2.2.1]
    have ar4 : aR h4 (ndA X n + 14) = aR h1 (ndA X n + 14) := by
      rw [hh4, aR_sI', hh3]
      show aR h2 (ndA X n + 14) = _
      exact (sp2 _ (by omega)).2.2.2.2.2.2
    have k4 : ∀ x, hK h4 x = hK h1 x := fun x => by rw [hh4, hK_sI]; exact k3 x
    have hR4 : ∀ f x, hR h4 f x = hR h1 f x := fun f x => by rw [hh4, hR_sI]; exact hR3 f x
    refine rx_node w1 hn ch4 (gle_refl g) (fun _ => rfl) (nx_refl n s) ⟨ns_eq k4 (fun f x _ => hR4 f x) (i4 _ _ (Or.inl rfl) (by decide)) d1, ?_, nq_fr (pn_fr ch4 hn hM) (gle_refl g) (hR4 _ _) ar4 rfl rfl (fun _ => rfl) d3, fun _ => ⟨ap + 1, lgM s n, tmM s n, ap4.1, ap4.2.1, ap4.2.2.1, cpt_le teM c3 (by omega), ap4.2.2.2.1, ap4.2.2.2.2⟩⟩
    unfold NV at *
    rw [i4 _ _ (Or.inl rfl) (by decide), i4 _ _ (Or.inl rfl) (by decide), i4 _ _ (Or.inl rfl) (by decide), i4 _ _ (Or.inl rfl) (by decide), i4 _ _ (Or.inl rfl) (by decide), i4 _ _ (Or.inr rfl) (by decide), i4 _ _ (Or.inr rfl) (by decide), i4 _ _ (Or.inr rfl) (by decide), i4 _ _ (Or.inr rfl) (by decide)]
    obtain ⟨v1, v2, v3, v4, v5, v6, v7, v8, v9, v10⟩ := d2
    exact ⟨v1, v2, v3, v4, v5, v6, v7, v8, v9, fun m hm => by rw [ai4 _ m (Or.inl rfl), ai4 _ m (Or.inr rfl)]; exact v10 m hm⟩
  refine ⟨h4, ?_, ch_trans (ch_mono s2 (fun x _ q => Or.inl ⟨by omega, by omega⟩)) (ch_mono ch4 (fun _ _ q => Or.inr q)), w4, ap4⟩
  have k21 : gR h1 2 1 e = some (some c) := by rw [gR_k ke, rc]
  have kst2 : hK h2 (ndA X n + 10) = some (11, 1201) := (k2 _).trans (q_k10 w1 hn)
  have r51 : gR h3 5 1 (ndA X n) = some (some (ndA X n + 1)) := by
    rw [gR_k k5, hR3]
    have := q_store w1 hn
    rw [gR_k (q_k5 w1 hn)] at this; exact this
  unfold fX5_applyCommitted_7_body
  rw [q_comU w hn hu, bd_some, mi_6 mi hn hu, if_neg (by rw [io_lt (by omega) (by omega)]; omega), q_disk w hn, bd_some, onR_some, if_pos (q_k1 w hn), ea, bd2_some, onR_some, q_res w hn, bd_some, onR_some, lnA_k (q_k10 w hn), bd_some, if_pos (by rw [io_lt (by omega) (by omega)]; omega), q_wit w hn, bd_some, onR_some, if_pos (q_k8 w), s1, bd2_some, q_res w1 hn, bd_some, onR_some, q_store w1 hn, bd_some, onR_some, k21, bd_some, onR_some, if_pos (q_sw w1 hn).1, r1, bd2_some, stI_k kst2 (show ap + 1 < 1201 by omega) (by decide), bd_some, ← hh3, r51, bd_some, onR_some, if_pos sw3.1, lim, bd2_some, pI_k k5, bd_some, ← hh4, io_a1]
theorem c_apps (mi : MI s g B K W) (hn : n < 5) (hu : mA s 1 n = 1) (hB : B ≤ 180) : ∀ (d ap f : Nat) (h : Hp), ap + d = cmM s n → d < f → RX X M h s g K → APs X h s n ap → ∃ h', fX5_applyCommitted_7 f (ndA X n) (Int32.ofNat (ap + 1)) h = some ((), h') ∧ CC X n h h' ∧ RX X M h' s g K ∧ APs X h' s n (cmM s n) := by
  have lsB := mi_ls mi n
  obtain ⟨c1, c2, c3⟩ := mi_cm mi n
  intro d
  induction d with
  | zero =>
    intro ap f h h0 hf w a
    obtain ⟨f, rfl⟩ : ∃ g, f = g + 1 := ⟨f - 1, by omega⟩
    have e : ap = cmM s n := by omega
    refine ⟨h, ?_, cc_refl X n h, w, by rw [← e]; exact a⟩
    have e0 : fX5_applyCommitted_7 (f + 1) (ndA X n) (Int32.ofNat (ap + 1)) h = fX5_applyCommitted_7_body (fX5_applyCommitted_7 f) (ndA X n) (Int32.ofNat (ap + 1)) h := rfl
    rw [e0]
    unfold fX5_applyCommitted_7_body
    rw [q_comU w hn hu, bd_some, mi_6 mi hn hu, if_pos (by rw [io_lt (by omega) (by omega)]; omega)]
  | succ d ih =>
    intro ap f h h0 hf w a
    obtain ⟨f, rfl⟩ : ∃ g, f = g + 1 := ⟨f - 1, by omega⟩
    obtain ⟨h1, g1, g2, g3, g4⟩ := c_app1 (k7 := fX5_applyCommitted_7 f) w mi hn hu hB a (by omega)
    obtain ⟨h', f1, f2, f3, f4⟩ := ih (ap + 1) f h1 (by omega) (by omega) g3 g4
    have e0 : fX5_applyCommitted_7 (f + 1) (ndA X n) (Int32.ofNat (ap + 1)) h = fX5_applyCommitted_7_body (fX5_applyCommitted_7 f) (ndA X n) (Int32.ofNat (ap + 1)) h := rfl
    exact ⟨h', by rw [e0, g1]; exact f1, cc_trans g2 f2, f3, f4⟩
theorem c_apply (w : RX X M h s g K) (mi : MI s g B K W) (hn : n < 5) (hB : B ≤ 180) : ∃ h', fX5_applyCommitted (ndA X n) h = some ((), h') ∧ CC X n h h' ∧ RX X M h' s g K ∧ (mA s 1 n = 1 → hI h' (gq 5 10) (ndA X n) = mA s 6 n) := by
  have lsB := mi_ls mi n
  obtain ⟨c1, c2, c3⟩ := mi_cm mi n
  unfold fX5_applyCommitted
  by_cases hu : mA s 1 n = 1
  · obtain ⟨ap, a⟩ := ap_of w mi hn hu
    obtain ⟨h', f1, f2, f3, f4⟩ := c_apps mi hn hu hB (cmM s n - ap) ap LF h (by have := a.2.2.1; omega) (LF_lt (by omega)) w a
    refine ⟨h', ?_, f2, f3, fun _ => by rw [mi_6 mi hn hu]; exact f4.1⟩
    rw [gI_k (q_k5 w hn), a.1, bd_some, io_a1]; exact f1
  · have u0 : mA s 1 n = 0 := (mi.2.1 n hn).1.resolve_right hu
    refine ⟨h, ?_, cc_refl X n h, w, fun q => absurd q hu⟩
    rw [gI_k (q_k5 w hn), bd_some]
    generalize hI h (gq 5 10) (ndA X n) + 1 = x
    have e0 : fX5_applyCommitted_7 LF (ndA X n) x h = fX5_applyCommitted_7_body (fX5_applyCommitted_7 999999) (ndA X n) x h := rfl
    rw [e0]
    unfold fX5_applyCommitted_7_body
    rw [q_com w hn, u0, if_pos rfl, bd_some]
    by_cases z : mA s 4 n < x
    · rw [if_pos z]
    · rw [if_neg z, q_disk w hn, bd_some, onR_some, if_pos (q_k1 w hn), c_entryAt w mi hn (by omega), if_pos (Or.inl (Int32.not_lt.mp z)), bd2_some]
      rfl
end
