/-! ===== history is forgotten ===== -/
set_option maxRecDepth 100000 in
theorem b6_s : ∀ k, k < 64 → ((Int32.ofNat k).toInt64 &&& 63).toBitVec.smod 64 = BitVec.ofNat 64 k := by decide
theorem b6_1 {k : Nat} (hk : k < 64) : (1 : Int64) <<< ((Int32.ofNat k).toInt64 &&& 63) = Int64.ofNat (2 ^ k) := by
  have := il_sl (m := 1) (b6_s k hk) hk
  rw [Nat.one_mul] at this; exact this
theorem b6_or {U k : Nat} (hU : U < 2 ^ 64) (hk : k < 64) : Int64.ofNat U ||| Int64.ofNat (2 ^ k) = Int64.ofNat (U ||| 2 ^ k) := by
  have h2 : 2 ^ k < 2 ^ 64 := Nat.pow_lt_pow_right (by decide) hk
  have h3 : U ||| 2 ^ k < 2 ^ 64 := Nat.or_lt_two_pow hU h2
  rw [← Int64.toBitVec_inj, Int64.toBitVec_or, il_bv, il_bv, il_bv]
  apply BitVec.eq_of_toNat_eq
  rw [BitVec.toNat_or, BitVec.toNat_ofNat, BitVec.toNat_ofNat, BitVec.toNat_ofNat, Nat.mod_eq_of_lt hU, Nat.mod_eq_of_lt h2, Nat.mod_eq_of_lt h3]
theorem b6_cl {U k : Nat} (hU : U < 2 ^ 64) (hk : k < 64) : Int64.ofNat U &&& (Int64.ofNat (2 ^ k) ^^^ (-1 : Int64)) = Int64.ofNat (U &&& (2 ^ k ^^^ (2 ^ 64 - 1))) := by
  have h2 : 2 ^ k < 2 ^ 64 := Nat.pow_lt_pow_right (by decide) hk
  have h3 : U &&& (2 ^ k ^^^ (2 ^ 64 - 1)) < 2 ^ 64 := Nat.lt_of_le_of_lt Nat.and_le_left hU
  have e : (-1 : Int64).toBitVec.toNat = 2 ^ 64 - 1 := by decide
  rw [← Int64.toBitVec_inj, Int64.toBitVec_and, Int64.toBitVec_xor, il_bv, il_bv, il_bv]
  apply BitVec.eq_of_toNat_eq
  rw [BitVec.toNat_and, BitVec.toNat_xor, e, BitVec.toNat_ofNat, BitVec.toNat_ofNat, BitVec.toNat_ofNat, Nat.mod_eq_of_lt hU, Nat.mod_eq_of_lt h2, Nat.mod_eq_of_lt h3]
theorem b6_to {U k j : Nat} (hj : j < 64) : (U &&& (2 ^ k ^^^ (2 ^ 64 - 1))).testBit j = true ↔ (U.testBit j = true ∧ j ≠ k) := by
  rw [Nat.testBit_and, Bool.and_eq_true, Nat.testBit_xor, Nat.testBit_two_pow, Nat.testBit_two_pow_sub_one]
  have : decide (j < 64) = true := decide_eq_true hj
  rw [this]
  by_cases e : k = j
  · subst e; simp
  · have : decide (k = j) = false := decide_eq_false e
    rw [this]; simp; intro _ q; exact e q.symm
theorem b6_oo {U k j : Nat} : (U ||| 2 ^ k).testBit j = true ↔ (U.testBit j = true ∨ j = k) := by
  rw [Nat.testBit_or, Bool.or_eq_true, Nat.testBit_two_pow, decide_eq_true_eq]
  exact ⟨fun q => q.imp id Eq.symm, fun q => q.imp id Eq.symm⟩
/-- the first g of the events are taken into what was -/
def OldU (t : SS) (p : MS) (n : Nat) : Prop := ∃ U, tG t 10 = Int64.ofNat U ∧ U < 2 ^ 64 ∧ ∀ k, k < 64 → (U.testBit k = true ↔ (lst p k n).1 = 1) ∧ tA t 7 k = (lst p k n).2
theorem io_kk {a b : Nat} (ha : a < 64) (hb : b < 64) : (Int32.ofNat a = Int32.ofNat b) ↔ a = b := by rw [io_eq (by omega) (by omega)]
theorem c7_old {t : SS} {p : MS} {F cnt F' : Nat} (h3 : tF t 3 = Int32.ofNat cnt) (hc : F + cnt = nE p) (h4 : cnt ≤ 400) (hev : ∀ i, i < cnt → tK t 1 i = coded p (F + i)) (ok : ∀ i, i < nE p → EvOK p i) (hF : F ≤ F') (hF' : F' ≤ nE p) (lo : ∀ i, F ≤ i → i < F' → ¬ tF t 1 < mA p 34 i) (hi : F' < nE p → tF t 1 < mA p 34 F') : ∀ (d g f : Nat) (t' : SS), g + d = F' - F → d < f → (∀ k, tF t' k = tF t k) → (∀ i, tK t' 1 i = tK t 1 i) → (∀ x i, x ≠ 7 → tA t' x i = tA t x i) → OldU t' p (F + g) → ∃ t'', gX7_forgetCompacted_2 f (Int32.ofNat g) t' = gX7_forgetCompacted_96 (Int32.ofNat (F' - F)) t'' ∧ (∀ k, tF t'' k = tF t k) ∧ (∀ i, tK t'' 1 i = tK t 1 i) ∧ (∀ x i, x ≠ 7 → tA t'' x i = tA t x i) ∧ OldU t'' p F' := by
  intro d
  induction d with
  | zero =>
    intro g f t' h0 hf e1 e2 e3 e4
    obtain ⟨f, rfl⟩ : ∃ g, f = g + 1 := ⟨f - 1, by omega⟩
    have eg : g = F' - F := by omega
    refine ⟨t', ?_, e1, e2, e3, by rw [show F' = F + g by omega]; exact e4⟩
    have e0 : gX7_forgetCompacted_2 (f + 1) (Int32.ofNat g) t' = gX7_forgetCompacted_2_body (gX7_forgetCompacted_2 f) (Int32.ofNat g) t' := rfl
    rw [e0]
    unfold gX7_forgetCompacted_2_body rd7
    rw [bd_some, e1 3, h3]
    by_cases z : cnt ≤ g
    · rw [if_pos (by rw [io_le (by omega) (by omega)]; exact z), eg]
    · rw [if_neg (by rw [io_le (by omega) (by omega)]; exact z), lk7_g (by omega), bd_some, e2, hev g (by omega), d7_rev (ok (F + g) (by omega)), bd7_some, bd_some, e1 1, show F + g = F' by omega, if_pos (hi (by omega)), eg]
  | succ d ih =>
    intro g f t' h0 hf e1 e2 e3 e4
    obtain ⟨f, rfl⟩ : ∃ g, f = g + 1 := ⟨f - 1, by omega⟩
    have gl : g < cnt := by omega
    have evg := ok (F + g) (by omega)
    obtain ⟨r, k, q1, q2, q3, q4, q5⟩ := id evg
    obtain ⟨U, u1, u2, u3⟩ := e4
    have e0 : gX7_forgetCompacted_2 (f + 1) (Int32.ofNat g) t' = gX7_forgetCompacted_2_body (gX7_forgetCompacted_2 f) (Int32.ofNat g) t' := rfl
    have lk : ∀ (x : SS), (∀ i, tK x 1 i = tK t 1 i) → lk7 x 12 1 (Int32.ofNat g) = some (coded p (F + g)) := fun x hx => by rw [lk7_g (by omega), hx, hev g gl]
    rw [e0]
    unfold gX7_forgetCompacted_2_body rd7 rl7
    have nle : ¬ Int32.ofNat cnt ≤ Int32.ofNat g := by rw [io_le (by omega) (by omega)]; omega
    have nlo := lo (F + g) (by omega) (by omega)
    simp only [bd_some, e1 3, h3, if_neg nle, lk t' e2, d7_rev evg, bd7_some, e1 1, if_neg nlo, d7_key evg, d7_put evg, u1, q3, b6_1 q4]
    unfold gX7_forgetCompacted_72 wl7
    have step : ∀ (U' : Nat), U' < 2 ^ 64 → (∀ j, j < 64 → (U'.testBit j = true ↔ (lst p j (F + g + 1)).1 = 1)) → OldU (vA (vG t' 10 (Int64.ofNat U')) 7 k (mA p 36 (F + g))) p (F + (g + 1)) := fun U' l1 l2 => by
      refine ⟨U', by rw [tG_vA, tG_vG, if_pos rfl], l1, fun j hj => ⟨by rw [show F + (g + 1) = F + g + 1 by omega]; exact l2 j hj, ?_⟩⟩
      rw [tA_vA, show F + (g + 1) = F + g + 1 by omega]
      unfold lst
      rw [q3]
      by_cases e : j = k
      · rw [if_pos ⟨rfl, e⟩, if_pos ((io_kk q4 hj).mpr e.symm)]
      · rw [if_neg (fun z => e z.2), if_neg (fun z => e ((io_kk q4 hj).mp z).symm)]
        exact (u3 j hj).2
    have go : ∀ (U' : Nat), U' < 2 ^ 64 → (∀ j, j < 64 → (U'.testBit j = true ↔ (lst p j (F + g + 1)).1 = 1)) → ∃ t'', (bd (some (vG t' 10 (Int64.ofNat U'))) fun s1 => bd (lk7 s1 12 1 (Int32.ofNat g)) fun z2 => bd7 (gX7_valueOf z2 s1) fun z3 s3 => bd (st7 s3 11 7 (Int32.ofNat k) z3) fun s4 => gX7_forgetCompacted_2 f (Int32.ofNat g + 1) s4) = gX7_forgetCompacted_96 (Int32.ofNat (F' - F)) t'' ∧ (∀ k, tF t'' k = tF t k) ∧ (∀ i, tK t'' 1 i = tK t 1 i) ∧ (∀ x i, x ≠ 7 → tA t'' x i = tA t x i) ∧ OldU t'' p F' := fun U' l1 l2 => by
      rw [bd_some, lk _ (fun i => by rw [tK_vG]; exact e2 i), bd_some, d7_val evg, bd7_some, s7_7 q4, bd_some, io_a1]
      exact ih (g + 1) f _ (by omega) (by omega) (fun k => e1 k) (fun i => e2 i) (fun x i hx => by rw [tA_vA, if_neg (fun z => hx z.1)]; exact e3 x i hx) (step U' l1 l2)
    have l2k : 2 ^ k < 2 ^ 64 := Nat.pow_lt_pow_right (by decide) q4
    rcases q5 with z | ⟨z, z'⟩
    · rw [z, if_neg (show ¬ (1 : Int32) = 0 by decide), if_neg (by decide), b6_or u2 q4]
      refine go (U ||| 2 ^ k) (Nat.or_lt_two_pow u2 l2k) (fun j hj => ?_)
      rw [b6_oo]
      unfold lst
      rw [q3]
      by_cases e : j = k
      · rw [if_pos ((io_kk q4 hj).mpr e.symm), z]; exact ⟨fun _ => rfl, fun _ => Or.inr e⟩
      · rw [if_neg (fun y => e ((io_kk q4 hj).mp y).symm), ← (u3 j hj).1]; exact ⟨fun y => y.elim id (fun y => absurd y e), Or.inl⟩
    · rw [z, if_pos rfl, if_pos rfl, b6_cl u2 q4]
      refine go (U &&& (2 ^ k ^^^ (2 ^ 64 - 1))) (Nat.lt_of_le_of_lt Nat.and_le_left u2) (fun j hj => ?_)
      rw [b6_to hj]
      unfold lst
      rw [q3]
      by_cases e : j = k
      · rw [if_pos ((io_kk q4 hj).mpr e.symm), z]; exact ⟨fun y => absurd e y.2, fun y => absurd (show (0 : Int32) = 1 from y) (by decide)⟩
      · rw [if_neg (fun y => e ((io_kk q4 hj).mp y).symm), ← (u3 j hj).1]; exact ⟨fun y => y.1, fun y => ⟨y, e⟩⟩
theorem c7_shift {t : SS} {cnt g : Nat} (h3 : tF t 3 = Int32.ofNat cnt) (hg : g ≤ cnt) (hc : cnt ≤ 400) : gX7_forgetCompacted_96 (Int32.ofNat g) t = some ((), vF (vW t 1 (va_cpy (tK t 1) (tK t 1) g 0 (cnt - g))) 3 (Int32.ofNat (cnt - g))) := by
  unfold gX7_forgetCompacted_96 rd7 wr7 cp7
  have l : len7 1 = 464 := rfl
  rw [bd_some, h3, io_sb hg, if_pos]
  · rw [bd_some]
    show bd (some (tF t 3)) _ = _
    rw [bd_some, h3, io_sb hg, bd_some, io_cl (by omega), io_cl (by omega)]
    rfl
  · have z : (0 : Int32).toNatClampNeg = 0 := by decide
    rw [io_nn (by omega), io_nn (by omega), io_cl (by omega), io_cl (by omega), z, l]
    exact ⟨rfl, rfl, id, by decide, id, by omega, by omega⟩
theorem c7_compact {t : SS} {p : MS} {N : Nat} {a : Int32} (h : SC t p) (pi : PI p N) (hN : N ≤ 190) : ∃ t', gX7_compact a t = some ((if a ≤ mF p 42 ∨ mF p 40 < a then 0 else 1), t') ∧ SC t' (if a ≤ mF p 42 ∨ mF p 40 < a then p else uF p 42 a) := by
  have hn := pi_n pi
  have fl := fV_le p
  obtain ⟨a0, a1, a2, a3, a4, a5, a6, a7, U, a8, a9, a10⟩ := id h
  unfold gX7_compact rd7 wr7
  rw [bd_some, a2]
  by_cases z : a ≤ mF p 42
  · rw [if_pos z, if_pos (Or.inl z), if_pos (Or.inl z)]; exact ⟨t, rfl, h⟩
  · rw [if_neg z, bd_some, a1]
    by_cases z2 : a ≤ mF p 40
    · rw [if_pos z2, if_neg (fun q => q.elim z (fun u => absurd u (Int32.not_lt.mpr z2))), if_neg (fun q => q.elim z (fun u => absurd u (Int32.not_lt.mpr z2))), bd_some]
      have en : nE (uF p 42 a) = nE p := nE_f (mF_n _ _ (by decide))
      have fl' := fV_le (uF p 42 a)
      rw [en] at fl'
      have f42 : mF (uF p 42 a) 42 = a := mF_h _ _ _
      -- the cut moves on
      have ff : fV p ≤ fV (uF p 42 a) := by
        by_cases y : fV (uF p 42 a) < fV p
        · exfalso
          have := fv_hi (p := uF p 42 a) (by omega)
          rw [f42] at this
          exact fv_lo y (Int32.lt_trans (Int32.not_le.mp z) this)
        · omega
      have t3 : tF (vF t 1 a) 3 = Int32.ofNat (nE p - fV p) := a7.1
      have t1 : tF (vF t 1 a) 1 = a := by rw [tF_vF, if_pos rfl]
      obtain ⟨t2, g1, g2, g3, g4, g5⟩ := c7_old (t := vF t 1 a) (p := p) (F := fV p) (cnt := nE p - fV p) (F' := fV (uF p 42 a)) t3 (by omega) (by omega) (fun i hi => a7.2 i (by omega)) (fun i hi => pi_ev pi (by omega) hi) ff fl' (fun i _ hi => by rw [t1, ← f42]; exact fv_lo hi) (fun q => by rw [t1]; have := fv_hi (p := uF p 42 a) (by omega); rw [f42] at this; exact this) (fV (uF p 42 a) - fV p) 0 LF (vF t 1 a) (by omega) (LF_lt (by omega)) (fun _ => rfl) (fun _ => rfl) (fun _ _ _ => rfl) ⟨U, a8, a9, a10⟩
      have sh := c7_shift (t := t2) (cnt := nE p - fV p) (g := fV (uF p 42 a) - fV p) ((g2 3).trans t3) (by omega) (by omega)
      have cd : ∀ i, coded (uF p 42 a) i = coded p i := fun i => coded_same (fun _ _ _ => rfl)
      have ls : ∀ k n, lst (uF p 42 a) k n = lst p k n := fun k n => lst_same n (fun _ _ _ _ _ => rfl)
      obtain ⟨U2, w1, w2, w3⟩ := g5
      refine ⟨vF (vW t2 1 (va_cpy (tK t2 1) (tK t2 1) (fV (uF p 42 a) - fV p) 0 (nE p - fV p - (fV (uF p 42 a) - fV p)))) 3 (Int32.ofNat (nE p - fV p - (fV (uF p 42 a) - fV p))), ?_, ?_⟩
      · unfold gX7_forgetCompacted
        rw [show gX7_forgetCompacted_2 LF (0 : Int32) = gX7_forgetCompacted_2 LF (Int32.ofNat 0) from congrArg _ rfl, g1, sh, bd7_some]
      · have F2 : ∀ f, f ≠ 3 → tF (vF (vW t2 1 (va_cpy (tK t2 1) (tK t2 1) (fV (uF p 42 a) - fV p) 0 (nE p - fV p - (fV (uF p 42 a) - fV p)))) 3 (Int32.ofNat (nE p - fV p - (fV (uF p 42 a) - fV p)))) f = tF (vF t 1 a) f := fun f hf => by rw [tF_vF, if_neg hf]; exact g2 f
        unfold SC
        rw [en]
        refine ⟨a0, ?_, ?_, ?_, fun k hk => ?_, ?_, fun l h1 h2 q => ?_, ⟨?_, fun i hi => ?_⟩, U2, w1, w2, fun k hk => ?_⟩
        · rw [F2 0 (by decide), tF_vF, if_neg (by decide), mF_n _ _ (by decide)]; exact a1
        · rw [F2 1 (by decide), t1, f42]
        · rw [F2 4 (by decide), tF_vF, if_neg (by decide), mF_n _ _ (by decide)]; exact a3
        · have : ∀ x, x ≠ 7 → tA t2 x k = tA t x k := fun x hx => g4 x k hx
          show tA t2 2 k = _ ∧ tA t2 3 k = _ ∧ tA t2 4 k = _ ∧ tA t2 5 k = _ ∧ tA t2 6 k = _
          rw [this 2 (by decide), this 3 (by decide), this 4 (by decide), this 5 (by decide), this 6 (by decide)]; exact a4 k hk
        · obtain ⟨V, v1, v2, v3⟩ := a5
          exact ⟨V, v1, by rw [F2 12 (by decide), tF_vF, if_neg (by decide)]; exact v2, v3⟩
        · show tA t2 8 l = _
          rw [g4 8 l (by decide)]; exact a6 l h1 h2 q
        · rw [tF_vF, if_pos rfl, show nE p - fV p - (fV (uF p 42 a) - fV p) = nE p - fV (uF p 42 a) by omega]
        · rw [cd]
          show va_cpy (tK t2 1) (tK t2 1) (fV (uF p 42 a) - fV p) 0 (nE p - fV p - (fV (uF p 42 a) - fV p)) i = _
          unfold va_cpy
          rw [if_pos ⟨Nat.zero_le _, by omega⟩, g3, Nat.sub_zero]
          show tK t 1 _ = _
          rw [a7.2 _ (by omega), show fV p + (fV (uF p 42 a) - fV p + i) = fV (uF p 42 a) + i by omega]
        · rw [ls]; exact w3 k hk
    · rw [if_neg z2, if_pos (Or.inr (Int32.not_le.mp z2)), if_pos (Or.inr (Int32.not_le.mp z2))]; exact ⟨t, rfl, h⟩
theorem c7_limit {t : SS} {p : MS} (h : SC t p) : gX7_forgetBeyondLimit t = some ((), t) := by
  unfold gX7_forgetBeyondLimit
  have e0 : gX7_forgetBeyondLimit_2 LF (0 : Int32) t = gX7_forgetBeyondLimit_2_body (gX7_forgetBeyondLimit_2 999999) (0 : Int32) t := rfl
  have a7 := h.2.2.2.2.2.2.2.1.1
  have a0 := h.1
  rw [e0]
  unfold gX7_forgetBeyondLimit_2_body rd7
  rw [if_neg (by decide), bd_some, a7, if_pos (by rw [show (400 : Int32) = Int32.ofNat 400 from rfl, io_le (by omega) (by omega)]; omega)]
