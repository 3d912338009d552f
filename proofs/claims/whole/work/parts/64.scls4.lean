set_option maxRecDepth 100000 in
theorem bt_has : ∀ V, V < 256 → ∀ l, l < 8 → ((Int32.ofNat V &&& ((1 : Int32) <<< (Int32.ofNat l &&& 31)) = 0) ↔ V.testBit l = false) := by decide
set_option maxRecDepth 100000 in
theorem bt_set : ∀ V, V < 256 → ∀ l, l < 8 → Int32.ofNat V ||| ((1 : Int32) <<< (Int32.ofNat l &&& 31)) = Int32.ofNat (V ||| 2 ^ l) := by decide
set_option maxRecDepth 100000 in
theorem bt_clr : ∀ V, V < 256 → ∀ l, l < 8 → Int32.ofNat V &&& (((1 : Int32) <<< (Int32.ofNat l &&& 31)) ^^^ (-1 : Int32)) = Int32.ofNat (V &&& (255 ^^^ 2 ^ l)) := by decide
set_option maxRecDepth 100000 in
theorem bt_255 : ∀ l, l < 8 → ∀ j, j < 8 → ((255 ^^^ 2 ^ l).testBit j = true ↔ j ≠ l) := by decide
theorem bt_lt {V l : Nat} (h : V < 256) (hl : l < 8) : V ||| 2 ^ l < 256 := Nat.or_lt_two_pow (n := 8) h (by exact Nat.pow_lt_pow_right (by decide) hl)
theorem bt_cl {V x : Nat} (h : V < 256) : V &&& x < 256 := Nat.lt_of_le_of_lt Nat.and_le_left h
section
variable {t : SS} {p : MS} {r : Int32} {N l : Nat}
theorem c7_has (h : SCr t p r) (b : ∀ j, mA p 32 j = 0 ∨ mA p 32 j = 1) (h1 : 1 ≤ l) (h2 : l ≤ 8) : gX7_hasLease (Int32.ofNat l) t = some (if mA p 32 l = 0 then 0 else 1, t) := by
  obtain ⟨V, v1, v2, v3⟩ := h.2.2.2.2.2.1
  have vl := v3 (l - 1) (by omega)
  rw [show l - 1 + 1 = l by omega] at vl
  unfold gX7_hasLease gX9_isLease rd7 gX7_bitOfLease
  rw [if_neg (by rw [show (1 : Int32) = Int32.ofNat 1 from rfl, io_lt (by omega) (by omega)]; omega), if_neg (by rw [show (8 : Int32) = Int32.ofNat 8 from rfl, io_lt (by omega) (by omega)]; omega), bd7_some, if_neg (by decide), bd_some, bd7_some, io_s1 h1, v2]
  have hh := bt_has V v1 (l - 1) (by omega)
  rcases b l with z | z
  · have : V.testBit (l - 1) = false := by
      cases q : V.testBit (l - 1)
      · rfl
      · exact absurd (vl.mp q) (by rw [z]; decide)
    rw [if_pos (hh.mpr this), if_pos z]
  · have tt := vl.mpr z
    rw [if_neg (fun q => by have := hh.mp q; rw [tt] at this; exact absurd this (by decide)), if_neg (by rw [z]; decide)]
/-- the bits of the leases -/
theorem scr_bits {t' : SS} {p' : MS} {V : Nat} (h : SCr t p r) (hF : ∀ f, f ≠ 12 → tF t' f = tF t f) (h12 : tF t' 12 = Int32.ofNat V) (hV : V < 256) (hA : ∀ x i, x ≠ 8 → tA t' x i = tA t x i) (hK : ∀ x i, tK t' x i = tK t x i) (hG : ∀ f, tG t' f = tG t f) (pA : ∀ x i, x ≠ 32 → x ≠ 33 → mA p' x i = mA p x i) (pF : ∀ f, mF p' f = mF p f) (hb : ∀ j, j < 8 → (V.testBit j = true ↔ mA p' 32 (j + 1) = 1)) (he : ∀ j, 1 ≤ j → j ≤ 8 → mA p' 32 j = 1 → tA t' 8 j = mA p' 33 j) : SCr t' p' r := by
  obtain ⟨a0, a1, a2, a3, a4, a5, a6, a7, U, a8, a9, a10⟩ := h
  have en : nE p' = nE p := nE_f (pF 47)
  have fv : fV p' = fV p := by
    have l := fV_le p
    exact fv_uq (by rw [en]; exact l) (fun i hi => by rw [pF 42, pA 34 i (by decide) (by decide)]; exact fv_lo hi) (fun q => by rw [pF 42, pA 34 _ (by decide) (by decide)]; exact fv_hi (by omega))
  unfold SCr
  rw [en, fv]
  refine ⟨a0, (hF 0 (by decide)).trans a1, by rw [hF 1 (by decide), pF 42]; exact a2, by rw [hF 4 (by decide), pF 41]; exact a3, fun k hk => ?_, ⟨V, hV, h12, hb⟩, he, ⟨by rw [hF 3 (by decide)]; exact a7.1, fun i hi => ?_⟩, U, (hG 10).trans a8, a9, fun k hk => ?_⟩
  · rw [hA 2 k (by decide), hA 3 k (by decide), hA 4 k (by decide), hA 5 k (by decide), hA 6 k (by decide), pA 27 k (by decide) (by decide), pA 28 k (by decide) (by decide), pA 29 k (by decide) (by decide), pA 30 k (by decide) (by decide), pA 31 k (by decide) (by decide)]; exact a4 k hk
  · rw [hK, coded_same (fun x h1 h2 => pA x _ (by omega) (by omega))]; exact a7.2 i hi
  · rw [hA 7 k (by decide), lst_same (p := p) (fV p) (fun x i h1 h2 h3 => pA x i (by omega) (by omega))]; exact a10 k hk
theorem c7_clr (h : SCr t p r) (h1 : 1 ≤ l) (h2 : l ≤ 8) : SCr (vF t 12 (tF t 12 &&& (((1 : Int32) <<< (Int32.ofNat (l - 1) &&& 31)) ^^^ (-1 : Int32)))) (uA p 32 l 0) r := by
  obtain ⟨V, v1, v2, v3⟩ := h.2.2.2.2.2.1
  refine scr_bits (V := V &&& (255 ^^^ 2 ^ (l - 1))) h (fun f hf => by rw [tF_vF, if_neg hf]) (by rw [tF_vF, if_pos rfl, v2, bt_clr V v1 (l - 1) (by omega)]) (bt_cl v1) (fun _ _ _ => rfl) (fun _ _ => rfl) (fun _ => rfl) (fun x i hx _ => mA_k _ _ _ _ hx) (fun _ => rfl) (fun j hj => ?_) (fun j e1 e2 q => ?_)
  · rw [Nat.testBit_and, Bool.and_eq_true, bt_255 (l - 1) (by omega) j hj, v3 j hj, mA_uA]
    by_cases e : j + 1 = l
    · rw [if_pos ⟨rfl, e⟩]
      exact ⟨fun q => absurd (show j = l - 1 by omega) q.2, fun q => absurd q (by decide)⟩
    · rw [if_neg (fun q => e q.2)]
      exact ⟨fun q => q.1, fun q => ⟨q, by omega⟩⟩
  · rw [mA_uA] at q
    by_cases e : j = l
    · rw [if_pos ⟨rfl, e⟩] at q; exact absurd q (by decide)
    · rw [if_neg (fun z => e z.2)] at q
      rw [mA_k _ _ _ _ (by decide)]
      exact h.2.2.2.2.2.2.1 j e1 e2 q
theorem c7_revoke (h : SC t p) (pi : PI p N) (hN : N ≤ 190) (h1 : 1 ≤ l) (h2 : l ≤ 8) : ∃ t', gX7_revoke (Int32.ofNat l) t = some ((if mA p 32 l = 0 then -1 else Int32.ofNat (pRem (Int32.ofNat l) 64 0 0 (uA p 32 l 0)).2), t') ∧ SC t' (if mA p 32 l = 0 then p else (pRem (Int32.ofNat l) 64 0 0 (uA p 32 l 0)).1) := by
  unfold gX7_revoke rd7 wr7 gX7_bitOfLease
  rw [c7_has (sc_iff.mp h) pi.2.2.2 h1 h2, bd7_some]
  by_cases z : mA p 32 l = 0
  · rw [if_pos z, if_pos rfl, if_pos z, if_pos z]; exact ⟨t, rfl, h⟩
  · obtain ⟨p1, hp1⟩ : ∃ p1, p1 = uA p 32 l 0 := ⟨_, rfl⟩
    have s1 := c7_clr (sc_iff.mp h) h1 h2
    have q1 : PI (uA p 32 l 0) N := pi_lease pi (Or.inl rfl)
    have cr := pi_cr pi (by omega)
    rw [← hp1] at s1 q1
    have e40 : mF p1 40 = mF p 40 := by rw [hp1]; rfl
    have e42 : mF p1 42 = mF p 42 := by rw [hp1]; rfl
    rw [if_neg z, if_neg (by decide), if_neg z, if_neg z, bd_some, bd7_some, bd_some, io_s1 h1, ← hp1, show (0 : Int32) = Int32.ofNat 0 from rfl]
    exact c7_rvk (l := Int32.ofNat l) (r := mF p 40) (by rw [io_nl (by omega)]; trivial) hN 64 0 LF 0 _ _ rfl (LF_lt (by decide)) s1 q1 (by rw [if_pos rfl]; exact e40) (by rw [e42]; exact cr) (by omega)
theorem c7_grant {e3 : Int32} (h : SC t p) (b : ∀ j, mA p 32 j = 0 ∨ mA p 32 j = 1) (h1 : 1 ≤ l) (h2 : l ≤ 8) : ∃ t', gX7_grant (Int32.ofNat l) e3 t = some ((if mA p 32 l = 0 then 1 else 0), t') ∧ SC t' (if mA p 32 l = 0 then uA (uA p 32 l 1) 33 l (mF p 41 + e3) else p) := by
  have isl : gX9_isLease (Int32.ofNat l) t = some (1, t) := by
    unfold gX9_isLease
    rw [if_neg (by rw [show (1 : Int32) = Int32.ofNat 1 from rfl, io_lt (by omega) (by omega)]; omega), if_neg (by rw [show (8 : Int32) = Int32.ofNat 8 from rfl, io_lt (by omega) (by omega)]; omega)]
  obtain ⟨V, v1, v2, v3⟩ := h.2.2.2.2.2.1
  unfold gX7_grant rd7 wr7 gX7_bitOfLease
  rw [isl, bd7_some, if_neg (by decide), c7_has (sc_iff.mp h) b h1 h2, bd7_some]
  by_cases z : mA p 32 l = 0
  · rw [if_pos z, if_pos rfl, if_pos z, if_pos z, bd_some, bd7_some, bd_some, bd_some, s7_8 (show l < 9 by omega), bd_some, io_s1 h1]
    refine ⟨_, rfl, ?_⟩
    rw [sc_iff]
    show SCr _ _ (mF p 40)
    have bl := bt_lt v1 (show l - 1 < 8 by omega)
    refine scr_bits (V := V ||| 2 ^ (l - 1)) (sc_iff.mp h) (fun f hf => by rw [tF_vA, tF_vF, if_neg hf]) (by rw [tF_vA, tF_vF, if_pos rfl, v2, bt_set V v1 (l - 1) (by omega)]) bl (fun x i hx => by rw [tA_vA, if_neg (fun q => hx q.1)]; rfl) (fun _ _ => rfl) (fun _ => rfl) (fun x i hx hx' => by rw [mA_k _ _ _ _ hx', mA_k _ _ _ _ hx]) (fun _ => rfl) (fun j hj => ?_) (fun j e1 e2 q => ?_)
    · rw [Nat.testBit_or, Nat.testBit_two_pow, Bool.or_eq_true, v3 j hj, mA_k _ _ _ _ (by decide), mA_uA, decide_eq_true_eq]
      by_cases e : j + 1 = l
      · rw [if_pos ⟨rfl, e⟩]; exact ⟨fun _ => rfl, fun _ => Or.inr (by omega)⟩
      · rw [if_neg (fun q => e q.2)]; exact ⟨fun q => q.elim id (fun u => by omega), Or.inl⟩
    · rw [tA_vA]
      by_cases e : j = l
      · subst e; rw [if_pos ⟨rfl, rfl⟩, mA_h, tF_vF, if_neg (by decide), h.2.2.2.1]
      · rw [if_neg (fun u => e u.2), mA_i _ _ _ _ e, mA_i _ _ _ _ e]
        rw [mA_i _ _ _ _ e, mA_i _ _ _ _ e] at q
        exact h.2.2.2.2.2.2.1 j e1 e2 q
  · rw [if_neg z, if_neg (by decide), if_neg z, if_neg z]; exact ⟨t, rfl, h⟩
theorem c7_renew {e3 : Int32} (h : SC t p) (b : ∀ j, mA p 32 j = 0 ∨ mA p 32 j = 1) (h1 : 1 ≤ l) (h2 : l ≤ 8) : ∃ t', gX7_renew (Int32.ofNat l) e3 t = some ((if mA p 32 l = 0 then 0 else 1), t') ∧ SC t' (if mA p 32 l = 0 then p else uA p 33 l (mF p 41 + e3)) := by
  unfold gX7_renew rd7
  rw [c7_has (sc_iff.mp h) b h1 h2, bd7_some]
  by_cases z : mA p 32 l = 0
  · rw [if_pos z, if_pos rfl, if_pos z]; exact ⟨t, rfl, h⟩
  · rw [if_neg z, if_neg (by decide), if_neg z, bd_some, s7_8 (show l < 9 by omega), bd_some]
    refine ⟨_, rfl, ?_⟩
    obtain ⟨V, v1, v2, v3⟩ := h.2.2.2.2.2.1
    rw [sc_iff]
    show SCr _ _ (mF p 40)
    refine scr_bits (V := V) (sc_iff.mp h) (fun f hf => rfl) v2 v1 (fun x i hx => by rw [tA_vA, if_neg (fun q => hx q.1)]) (fun _ _ => rfl) (fun _ => rfl) (fun x i hx hx' => mA_k _ _ _ _ hx') (fun _ => rfl) (fun j hj => by rw [mA_k _ _ _ _ (by decide)]; exact v3 j hj) (fun j e1 e2 q => ?_)
    rw [mA_k _ _ _ _ (by decide)] at q
    rw [tA_vA]
    by_cases e : j = l
    · subst e; rw [if_pos ⟨rfl, rfl⟩, mA_h, h.2.2.2.1]
    · rw [if_neg (fun u => e u.2), mA_i _ _ _ _ e]
      exact h.2.2.2.2.2.2.1 j e1 e2 q
theorem c7_tk (hN : N ≤ 190) : ∀ (d l f : Nat) (t : SS) (p : MS), l + d = 9 → 1 ≤ l → d < f → SC t p → PI p N → ∃ t', gX7_tick_12 f (Int32.ofNat l) t = some (mF p 41, t') ∧ SC t' (pTk d l p) := by
  intro d
  induction d with
  | zero =>
    intro l f t p h0 h1 hf h pi
    obtain ⟨f, rfl⟩ : ∃ g, f = g + 1 := ⟨f - 1, by omega⟩
    refine ⟨t, ?_, h⟩
    have e0 : gX7_tick_12 (f + 1) (Int32.ofNat l) t = gX7_tick_12_body (gX7_tick_12 f) (Int32.ofNat l) t := rfl
    rw [e0]
    unfold gX7_tick_12_body rd7
    rw [if_pos (by rw [show (8 : Int32) = Int32.ofNat 8 from rfl, io_lt (by omega) (by omega)]; omega), bd_some, h.2.2.2.1]
  | succ d ih =>
    intro l f t p h0 h1 hf h pi
    obtain ⟨f, rfl⟩ : ∃ g, f = g + 1 := ⟨f - 1, by omega⟩
    have e0 : gX7_tick_12 (f + 1) (Int32.ofNat l) t = gX7_tick_12_body (gX7_tick_12 f) (Int32.ofNat l) t := rfl
    rw [e0]
    unfold gX7_tick_12_body rd7 gX7_tick_45
    rw [if_neg (by rw [show (8 : Int32) = Int32.ofNat 8 from rfl, io_lt (by omega) (by omega)]; omega), c7_has (sc_iff.mp h) pi.2.2.2 h1 (by omega), bd7_some]
    have skip := ih (l + 1) f t p (by omega) (by omega) (by omega) h pi
    by_cases z : mA p 32 l = 0
    · have ep : pTk (d + 1) l p = pTk d (l + 1) p := by conv => lhs; unfold pTk; rw [if_pos (Or.inl z)]
      rw [if_pos z, if_pos rfl, ep, io_a1]; exact skip
    · have o : mA p 32 l = 1 := (pi.2.2.2 l).resolve_left z
      have e8 : tA t 8 l = mA p 33 l := h.2.2.2.2.2.2.1 l h1 (by omega) o
      rw [if_neg z, if_neg (by decide), l7_8 (show l < 9 by omega), bd_some, bd_some, e8, h.2.2.2.1]
      by_cases z2 : mF p 41 < mA p 33 l
      · have ep : pTk (d + 1) l p = pTk d (l + 1) p := by conv => lhs; unfold pTk; rw [if_pos (Or.inr z2)]
        rw [if_pos z2, ep, io_a1]; exact skip
      · have ep : pTk (d + 1) l p = pTk d (l + 1) (pRem (Int32.ofNat l) 64 0 0 (uA p 32 l 0)).1 := by conv => lhs; unfold pTk; rw [if_neg (fun q => q.elim z z2)]
        obtain ⟨t1, g1, g2⟩ := c7_revoke h pi hN h1 (by omega)
        rw [if_neg z] at g1 g2
        rw [if_neg z2, g1, bd7_some, ep, io_a1]
        have pr : PI (pRem (Int32.ofNat l) 64 0 0 (uA p 32 l 0)).1 N := pi_rem (by omega) 64 0 0 _ (pi_lease pi (Or.inl rfl)) (by omega)
        obtain ⟨t', f1, f2⟩ := ih (l + 1) f t1 _ (by omega) (by omega) (by omega) g2 pr
        have e41 : mF (pRem (Int32.ofNat l) 64 0 0 (uA p 32 l 0)).1 41 = mF p 41 := (rem_wf (l := Int32.ofNat l) 64 0 0 (uA p 32 l 0) (wf_f (s := p) rfl (pi_wf pi)) (by have := pi_n pi; show nE p + 64 < 5000; omega)).2.2
        rw [e41] at f1
        exact ⟨t', f1, f2⟩
end
