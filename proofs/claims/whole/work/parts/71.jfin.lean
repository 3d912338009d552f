/-! ===== what stands between two calls of the law ===== -/
/-- the reference at M is in the state s, the law's row of one long at M + 39 -/
def KP (M : Nat) (s : MS) (h : Hp) : Prop := MW M h ∧ pm M h s = h ∧ hK h (M + 39) = some (12, 1)
/-- what is committed is applied -/
def AP (X : Nat) (h : Hp) (s : MS) : Prop := ∀ n, n < 5 → mA s 1 n = 1 → hI h (gq 5 10) (ndA X n) = mA s 6 n
def FN (X M j : Nat) (h : Hp) (s : MS) : Prop := ∃ g K W, RX X M h s g K ∧ MI s g j K W ∧ CA s g ∧ AP X h s ∧ K ≤ 5 * j
def JJ (X M j : Nat) (h : Hp) : Prop := ∃ s, KP M s h ∧ FN X M j h s
section
variable {X M j : Nat} {h h1 h' : Hp} {s s' : MS} {g g' : GH} {B K W n : Nat}
theorem kp_sa (k : KP M s h) (c : ∀ a, M ≤ a → a ≤ M + 39 → SA h h' a) : KP M s h' := by
  obtain ⟨⟨w1, w2, w3⟩, p, q⟩ := k
  refine ⟨⟨(c M (by omega) (by omega)).1.trans w1, fun i i1 i2 => (c (M + i) (by omega) (by omega)).1.trans (w2 i i1 i2), fun z hz => ((c M (by omega) (by omega)).2.2.2.1 _).trans (w3 z hz)⟩, ?_, (c (M + 39) (by omega) (by omega)).1.trans q⟩
  have e1 : hI (pm M h' s) = hI h' := by
    funext f a
    show (if a = M ∧ 640 ≤ f ∧ f < 704 then mF s (f - 640) else hI h' f a) = hI h' f a
    by_cases z : a = M ∧ 640 ≤ f ∧ f < 704
    · have t : hI (pm M h s) f a = hI h f a := by rw [p]
      have t2 : (if a = M ∧ 640 ≤ f ∧ f < 704 then mF s (f - 640) else hI h f a) = hI h f a := t
      rw [if_pos z] at t2 ⊢
      rw [t2, z.1]
      exact ((c M (by omega) (by omega)).2.1 f).symm
    · rw [if_neg z]
  have e2 : aI (pm M h' s) = aI h' := by
    funext a i
    show (if M < a ∧ a ≤ M + 38 then mA s (a - M) i else aI h' a i) = aI h' a i
    by_cases z : M < a ∧ a ≤ M + 38
    · have t : aI (pm M h s) a i = aI h a i := by rw [p]
      have t2 : (if M < a ∧ a ≤ M + 38 then mA s (a - M) i else aI h a i) = aI h a i := t
      rw [if_pos z] at t2 ⊢
      rw [t2, (c a (by omega) (by omega)).2.2.2.2.1]
    · rw [if_neg z]
  have e3 : pm M h' s = mkH (hK h') (hI (pm M h' s)) (hL h') (hR h') (aI (pm M h' s)) (aL h') (aR h') (hZ h') := rfl
  rw [e3, e1, e2]
  rfl
theorem kp_cc (k : KP M s h) (c : CC X n h h') (hn : n < 5) (hM : M = X + 92) (hz : M + 40 ≤ hZ h) : KP M s h' := kp_sa k (fun a h1 h2 => c.2 a (by omega) (fun q => by unfold PC PNd ndA at q; omega))
theorem kp_tL {i : Nat} {v : Int64} (k : KP M s h) : KP M s (tL h (M + 39) i v) := by
  obtain ⟨w, p, q⟩ := k
  refine ⟨w, ?_, q⟩
  have e : pm M (tL h (M + 39) i v) s = tL (pm M h s) (M + 39) i v := rfl
  rw [e, p]
theorem fn_tL {i : Nat} {v : Int64} (f : FN X M j h s) : FN X M j (tL h (M + 39) i v) s := by
  obtain ⟨g, K, W, w, mi, ca, ap, hk⟩ := f
  exact ⟨g, K, W, rx_new w (ch_tL ⟨by omega, by omega⟩), mi, ca, ap, hk⟩
theorem fn_pm {z : Nat} {t : MS} (hz : hZ h ≤ z) (f : FN X M j h s) : FN X M j (pm M (zH h z) t) s := by
  obtain ⟨g, K, W, w, mi, ca, ap, hk⟩ := f
  have hM := rx_M w
  refine ⟨g, K, W, rx_new w ⟨hz, fun a ha hp => sa_trans sa_zH (sa_pm (by omega))⟩, mi, ca, fun n hn hu => ?_, hk⟩
  have e := ap n hn hu
  have : hI (pm M (zH h z) t) (gq 5 10) (ndA X n) = hI h (gq 5 10) (ndA X n) := if_neg (fun q => by have := q.1; unfold ndA at this; omega)
  rw [this]; exact e
theorem kp_pm {z : Nat} {t : MS} (k : KP M s h) : KP M t (pm M (zH h z) t) := by
  obtain ⟨w, p, q⟩ := k
  refine ⟨w, ?_, q⟩
  have e1 : hI (pm M (pm M (zH h z) t) t) = hI (pm M (zH h z) t) := by
    funext f a
    show (if a = M ∧ 640 ≤ f ∧ f < 704 then mF t (f - 640) else (if a = M ∧ 640 ≤ f ∧ f < 704 then mF t (f - 640) else hI h f a)) = (if a = M ∧ 640 ≤ f ∧ f < 704 then mF t (f - 640) else hI h f a)
    split <;> rfl
  have e2 : aI (pm M (pm M (zH h z) t) t) = aI (pm M (zH h z) t) := by
    funext a i
    show (if M < a ∧ a ≤ M + 38 then mA t (a - M) i else (if M < a ∧ a ≤ M + 38 then mA t (a - M) i else aI h a i)) = (if M < a ∧ a ≤ M + 38 then mA t (a - M) i else aI h a i)
    split <;> rfl
  have e3 : pm M (pm M (zH h z) t) t = mkH (hK (zH h z)) (hI (pm M (pm M (zH h z) t) t)) (hL (zH h z)) (hR (zH h z)) (aI (pm M (pm M (zH h z) t) t)) (aL (zH h z)) (aR (zH h z)) (hZ (zH h z)) := rfl
  rw [e3, e1, e2]
  rfl
/-- the reference's step, behind the class's -/
theorem ok_ref {α : Type} {z : Nat} {fm : Hp → Option (α × Hp)} {gm : Option (α × MS)} {b : α} (er : ∀ H, MW M H → fm (pm M H s) = lft M H gm) (eg : gm = some (b, s')) (kp : KP M s h1) : fm (zH h1 z) = some (b, pm M (zH h1 z) s') := by
  have e : zH h1 z = pm M (zH h1 z) s := by
    have : pm M (zH h1 z) s = zH (pm M h1 s) z := rfl
    rw [this, kp.2.1]
  have w : MW M (zH h1 z) := kp.1
  have r := er (zH h1 z) w
  rw [eg, lft_some, ← e] at r
  exact r
theorem ok_thr {z : Nat} {t : MS} (kp : KP M s h1) : fX10_thrown M (pm M (zH h1 z) t) = some (mF t 0, pm M (zH h1 z) t) := by
  have w : MW M (zH h1 z) := kp.1
  rw [eX10_thrown w]
  unfold gX10_thrown rdF
  rw [bd_some, lft_some]
theorem ok_ld {z : Nat} {t : MS} (kp : KP M s h1) : ldL (pm M (zH h1 z) t) 12 (M + 39) (0 : Int32) = some (aL h1 (M + 39) 0) := by
  have k : hK (pm M (zH h1 z) t) (M + 39) = some (12, 1) := kp.2.2
  unfold ldL
  rw [if_pos (by unfold inB; rw [k]; decide)]
  rfl
theorem ok_i {fw fm : Hp → Option (Int32 × Hp)} {gm : Option (Int32 × MS)} {k b : Int32} (e : fw h = some (k, h1)) (er : ∀ H, MW M H → fm (pm M H s) = lft M H gm) (eg : gm = some (b, s')) (hk : mF s' 0 = k) (hv : k = 0 → aL h1 (M + 39) 0 = b.toInt64) (kp : KP M s h1) (fn : FN X M j h1 s') : OKi (JJ X M j) M (M + 39) h fw fm := by
  refine ⟨k, h1, e, fun z hz => ⟨kp.1.1, b, pm M (zH h1 z) s', ok_ref er eg kp, kp.1.1, pm M (zH h1 z) s', ?_, fun q => ?_, s', kp_pm kp, fn_pm hz fn⟩⟩
  · rw [ok_thr kp, hk]
  · rw [ok_ld kp, hv q]
theorem ok_l {fw : Hp → Option (Int32 × Hp)} {fm : Hp → Option (Int64 × Hp)} {gm : Option (Int64 × MS)} {k : Int32} {b : Int64} (e : fw h = some (k, h1)) (er : ∀ H, MW M H → fm (pm M H s) = lft M H gm) (eg : gm = some (b, s')) (hk : mF s' 0 = k) (hv : k = 0 → aL h1 (M + 39) 0 = b) (kp : KP M s h1) (fn : FN X M j h1 s') : OKl (JJ X M j) M (M + 39) h fw fm := by
  refine ⟨k, h1, e, fun z hz => ⟨kp.1.1, b, pm M (zH h1 z) s', ok_ref er eg kp, kp.1.1, pm M (zH h1 z) s', ?_, fun q => ?_, s', kp_pm kp, fn_pm hz fn⟩⟩
  · rw [ok_thr kp, hk]
  · rw [ok_ld kp, hv q]
theorem ok_v {fw : Hp → Option (Int32 × Hp)} {fm : Hp → Option (Unit × Hp)} {gm : Option (Unit × MS)} {k : Int32} (e : fw h = some (k, h1)) (er : ∀ H, MW M H → fm (pm M H s) = lft M H gm) (eg : gm = some ((), s')) (hk : mF s' 0 = k) (kp : KP M s h1) (fn : FN X M j h1 s') : OKv (JJ X M j) M h fw fm := by
  refine ⟨k, h1, e, fun z hz => ⟨kp.1.1, pm M (zH h1 z) s', ok_ref er eg kp, kp.1.1, pm M (zH h1 z) s', ?_, s', kp_pm kp, fn_pm hz fn⟩⟩
  rw [ok_thr kp, hk]
theorem zH_id (h : Hp) : zH h (hZ h) = h := rfl
theorem ok_m {fw fm : Hp → Option (Unit × Hp)} {gm : Option (Unit × MS)} (kx : hK h X = some (9, 0)) (e : fw h = some ((), h1)) (er : ∀ H, MW M H → fm (pm M H s) = lft M H gm) (eg : gm = some ((), s')) (kp : KP M s h1) (fn : FN X M j h1 s') : OKm (JJ X M j) X M h fw fm := by
  have r := ok_ref (z := hZ h1) er eg kp
  rw [zH_id] at r
  exact ⟨kx, h1, e, kp.1.1, pm M h1 s', r, s', kp_pm (z := hZ h1) kp, fn_pm (z := hZ h1) (Nat.le_refl _) fn⟩
theorem ok_g {fw fm : Hp → Option (Int32 × Hp)} {gm : Option (Int32 × MS)} {v : Int32} (kx : hK h X = some (9, 0)) (e : fw h = some (v, h1)) (er : ∀ H, MW M H → fm (pm M H s) = lft M H gm) (eg : gm = some (v, s')) (kp : KP M s h1) (fn : FN X M j h1 s') : OKg (JJ X M j) X M h fw fm := by
  have r := ok_ref (z := hZ h1) er eg kp
  rw [zH_id] at r
  exact ⟨kx, v, h1, e, kp.1.1, pm M h1 s', r, s', kp_pm (z := hZ h1) kp, fn_pm (z := hZ h1) (Nat.le_refl _) fn⟩
/-- the class's answer, written into the law's row -/
theorem stL_k {v : Int64} (k : hK h (M + 39) = some (12, 1)) : stL h 12 (M + 39) (0 : Int32) v = some (tL h (M + 39) 0 v) := by
  unfold stL
  rw [if_pos (by unfold inB; rw [k]; decide)]
  rfl
theorem aL_tLh {v : Int64} : aL (tL h (M + 39) 0 v) (M + 39) 0 = v := if_pos ⟨rfl, rfl⟩
theorem bdc_inl {α β : Type} (v : α) (h : Hp) (k : α → Hp → Option β) (x : Nat → Hp → Option β) : bdc (some (.inl v, h)) k x = k v h := rfl
theorem bdc_inr {α β : Type} (e : Nat) (h : Hp) (k : α → Hp → Option β) (x : Nat → Hp → Option β) : bdc (some (.inr e, h)) k x = x e h := rfl
/-- an answer -/
theorem ok_iv {fw fm : Hp → Option (Int32 × Hp)} {gm : Option (Int32 × MS)} {b : Int32} (e : fw h = bd (stL h1 12 (M + 39) (0 : Int32) b.toInt64) fun h2 => some ((0 : Int32), h2)) (er : ∀ H, MW M H → fm (pm M H s) = lft M H gm) (eg : gm = some (b, s')) (hk : mF s' 0 = 0) (kp : KP M s h1) (fn : FN X M j h1 s') : OKi (JJ X M j) M (M + 39) h fw fm := by
  rw [stL_k kp.2.2, bd_some] at e
  exact ok_i e er eg hk (fun _ => aL_tLh) (kp_tL kp) (fn_tL fn)
theorem ok_lv {fw : Hp → Option (Int32 × Hp)} {fm : Hp → Option (Int64 × Hp)} {gm : Option (Int64 × MS)} {b : Int64} (e : fw h = bd (stL h1 12 (M + 39) (0 : Int32) b) fun h2 => some ((0 : Int32), h2)) (er : ∀ H, MW M H → fm (pm M H s) = lft M H gm) (eg : gm = some (b, s')) (hk : mF s' 0 = 0) (kp : KP M s h1) (fn : FN X M j h1 s') : OKl (JJ X M j) M (M + 39) h fw fm := by
  rw [stL_k kp.2.2, bd_some] at e
  exact ok_l e er eg hk (fun _ => aL_tLh) (kp_tL kp) (fn_tL fn)
/-- what a throw leaves -/
theorem fn_F {v : Int32} (f : FN X M j h s) : FN X M j h (uF s 0 v) := by
  obtain ⟨g, K, W, w, mi, ca, ap, hk⟩ := f
  exact ⟨g, K, W, rx_F w (by decide), mi_F mi (by decide), ca_ext (s := s) (gle_refl g) (fun _ _ _ => rfl) (fun k hk => mF_n s _ (show k ≠ 0 by omega)) ca, ap, hk⟩
theorem mF_h0 {s : MS} {v : Int32} : mF (uF s 0 v) 0 = v := by rw [mF_uF, if_pos rfl]
theorem fn_up (f : FN X M j h s) : FN X M (j + 1) h s := by
  obtain ⟨g, K, W, w, mi, ca, ap, hk⟩ := f
  exact ⟨g, K, W, w, mi_B (Nat.le_succ j) mi, ca, ap, by omega⟩
theorem ap_cc (a : AP X h s) (c : CC X n h h') (e : EX n s s') (hn : n < 5) (hM : M = X + 92) (hz : M + 40 ≤ hZ h) (q : mA s' 1 n = 1 → hI h' (gq 5 10) (ndA X n) = mA s' 6 n) : AP X h' s' := by
  intro v hv hu
  by_cases z : v = n
  · rw [z] at hu ⊢; exact q hu
  · have ev := e.2.2 v z
    rw [ev.1] at hu
    rw [ev.2, ← a v hv hu]
    refine (c.2 (ndA X v) (by unfold ndA; omega) (fun q => ?_)).2.1 _
    unfold PC PNd ndA at q; omega
/-- a call on node n -/
theorem fn_call {g' : GH} {K' W' : Nat} (ca : CA s g) (a : AP X h s) (c : CC X n h h') (e : EX n s s') (hn : n < 5) (hM : M = X + 92) (hz : M + 40 ≤ hZ h) (w : RX X M h' s' g' K') (mi : MI s' g' j K' W') (gl : GLe g g') (q : mA s' 1 n = 1 → hI h' (gq 5 10) (ndA X n) = mA s' 6 n) (hk : K' ≤ 5 * j) : FN X M j h' s' := ⟨g', K', W', w, mi, ca_ext gl e.1 (fun k hk => e.2.1 k (by omega) (by omega)) ca, ap_cc a c e hn hM hz q, hk⟩
/-- which node -/
theorem nd_cs (x : Int32) : (x < 0 ∨ (5 : Int32) ≤ x) ∨ ∃ n, n < 5 ∧ x = Int32.ofNat n := by
  by_cases z : x < 0 ∨ (5 : Int32) ≤ x
  · exact Or.inl z
  · refine Or.inr ⟨x.toNatClampNeg, ?_, io_of (Int32.not_lt.mp (fun q => z (Or.inl q)))⟩
    have h1 : 0 ≤ x := Int32.not_lt.mp (fun q => z (Or.inl q))
    have h2 : x < 5 := Int32.not_le.mp (fun q => z (Or.inr q))
    rw [io_of h1, show (5 : Int32) = Int32.ofNat 5 from rfl, io_lt (Int32.toNatClampNeg_lt _) (by decide)] at h2
    exact h2
theorem g_isN (hn : n < 5) : gX10_isNode (Int32.ofNat n) s = some (1, s) := by
  unfold gX10_isNode
  rw [if_neg (by rw [io_nn (by omega)]; exact id), if_neg (i5_le hn)]
theorem g_noN {x : Int32} (z : x < 0 ∨ (5 : Int32) ≤ x) : gX10_isNode x s = some (0, s) := by
  unfold gX10_isNode
  by_cases z1 : x < 0
  · rw [if_pos z1]
  · rw [if_neg z1, if_pos (z.resolve_left z1)]
theorem c_nodeAt (w : RX X M h s g K) (hn : n < 5) : fX9_nodeAt X (Int32.ofNat n) h = some (.inl (some (ndA X n)), h) := by
  unfold fX9_nodeAt
  rw [if_neg (by rw [io_nn (by omega)]; exact id), q_nodes w, bd_some, onR_some, lnA_k (q_kN w), bd_some, if_pos (by rw [io_lt (by omega) (by omega)]; omega), bd_some, onR_some, q_node w hn, bd_some, onR_some]
theorem c_nodeNo {x : Int32} (w : RX X M h s g K) (z : x < 0 ∨ (5 : Int32) ≤ x) : fX9_nodeAt X x h = some (.inr 0, h) := by
  unfold fX9_nodeAt fX9_nodeAt_13
  by_cases z1 : x < 0
  · rw [if_pos z1]
  · rw [if_neg z1, q_nodes w, bd_some, onR_some, lnA_k (q_kN w), bd_some, if_neg (show ¬ x < Int32.ofNat 5 from Int32.not_lt.mpr (z.resolve_left z1))]
theorem c_reqUp0 (w : RX X M h s g K) (hn : n < 5) (hu : mA s 1 n = 0) : fX9_requireUp (ndA X n) h = some (.inr 1, h) := by
  unfold fX9_requireUp
  rw [q_up w hn, bd_some, if_pos hu]
theorem c_reqUp1 (w : RX X M h s g K) (hn : n < 5) (hu : mA s 1 n = 1) : fX9_requireUp (ndA X n) h = some (.inl (), h) := by
  unfold fX9_requireUp
  rw [q_up w hn, bd_some, if_neg (by rw [hu]; decide)]
end
