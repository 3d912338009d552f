/-! ===== the class's Store does what THE STORE does ===== -/
theorem tA_vA (s : SS) (k i : Nat) (v : Int32) (k' i' : Nat) : tA (vA s k i v) k' i' = if k' = k ∧ i' = i then v else tA s k' i' := rfl
theorem tF_vA (s : SS) (k i : Nat) (v : Int32) (f : Nat) : tF (vA s k i v) f = tF s f := rfl
theorem tK_vA (s : SS) (k i : Nat) (v : Int32) (k' i' : Nat) : tK (vA s k i v) k' i' = tK s k' i' := rfl
theorem tG_vA (s : SS) (k i : Nat) (v : Int32) (f : Nat) : tG (vA s k i v) f = tG s f := rfl
theorem tA_vF (s : SS) (f : Nat) (v : Int32) (k i : Nat) : tA (vF s f v) k i = tA s k i := rfl
theorem tF_vF (s : SS) (f : Nat) (v : Int32) (f' : Nat) : tF (vF s f v) f' = if f' = f then v else tF s f' := rfl
theorem tK_vF (s : SS) (f : Nat) (v : Int32) (k i : Nat) : tK (vF s f v) k i = tK s k i := rfl
theorem tG_vF (s : SS) (f : Nat) (v : Int32) (f' : Nat) : tG (vF s f v) f' = tG s f' := rfl
theorem tA_vK (s : SS) (k i : Nat) (v : Int64) (k' i' : Nat) : tA (vK s k i v) k' i' = tA s k' i' := rfl
theorem tF_vK (s : SS) (k i : Nat) (v : Int64) (f : Nat) : tF (vK s k i v) f = tF s f := rfl
theorem tK_vK (s : SS) (k i : Nat) (v : Int64) (k' i' : Nat) : tK (vK s k i v) k' i' = if k' = k ∧ i' = i then v else tK s k' i' := rfl
theorem tG_vK (s : SS) (k i : Nat) (v : Int64) (f : Nat) : tG (vK s k i v) f = tG s f := rfl
theorem tG_vG (s : SS) (f : Nat) (v : Int64) (f' : Nat) : tG (vG s f v) f' = if f' = f then v else tG s f' := rfl
theorem tA_vG (s : SS) (f : Nat) (v : Int64) (k i : Nat) : tA (vG s f v) k i = tA s k i := rfl
theorem tF_vG (s : SS) (f : Nat) (v : Int64) (k : Nat) : tF (vG s f v) k = tF s k := rfl
theorem tK_vG (s : SS) (f : Nat) (v : Int64) (k i : Nat) : tK (vG s f v) k i = tK s k i := rfl
theorem ok7_i {k i : Nat} {t : Nat} (ht : tag7 k = t) (hi : i < len7 k) (hl : len7 k ≤ 500) : tag7 k = t ∧ ¬ (Int32.ofNat i < 0 ∨ len7 k ≤ (Int32.ofNat i).toNatClampNeg) := by
  rw [io_nn (by omega), io_cl (by omega)]; exact ⟨ht, fun q => q.elim id (fun z => by omega)⟩
theorem ld7_g {s : SS} {k i : Nat} (ht : tag7 k = 11) (hi : i < len7 k) (hl : len7 k ≤ 500) : ld7 s 11 k (Int32.ofNat i) = some (tA s k i) := by
  unfold ld7; rw [if_pos (ok7_i ht hi hl), io_cl (by omega)]
theorem st7_g {s : SS} {k i : Nat} {v : Int32} (ht : tag7 k = 11) (hi : i < len7 k) (hl : len7 k ≤ 500) : st7 s 11 k (Int32.ofNat i) v = some (vA s k i v) := by
  unfold st7; rw [if_pos (ok7_i ht hi hl), io_cl (by omega)]
theorem lk7_g {s : SS} {i : Nat} (hi : i < 464) : lk7 s 12 1 (Int32.ofNat i) = some (tK s 1 i) := by
  unfold lk7; rw [if_pos (ok7_i (k := 1) (t := 12) rfl hi (by decide)), io_cl (by omega)]
theorem sk7_g {s : SS} {i : Nat} {v : Int64} (hi : i < 464) : sk7 s 12 1 (Int32.ofNat i) v = some (vK s 1 i v) := by
  unfold sk7; rw [if_pos (ok7_i (k := 1) (t := 12) rfl hi (by decide)), io_cl (by omega)]
theorem l7_2 {s : SS} {i : Nat} (hi : i < 64) : ld7 s 11 2 (Int32.ofNat i) = some (tA s 2 i) := ld7_g rfl hi (by decide)
theorem l7_3 {s : SS} {i : Nat} (hi : i < 64) : ld7 s 11 3 (Int32.ofNat i) = some (tA s 3 i) := ld7_g rfl hi (by decide)
theorem l7_4 {s : SS} {i : Nat} (hi : i < 64) : ld7 s 11 4 (Int32.ofNat i) = some (tA s 4 i) := ld7_g rfl hi (by decide)
theorem l7_5 {s : SS} {i : Nat} (hi : i < 64) : ld7 s 11 5 (Int32.ofNat i) = some (tA s 5 i) := ld7_g rfl hi (by decide)
theorem l7_6 {s : SS} {i : Nat} (hi : i < 64) : ld7 s 11 6 (Int32.ofNat i) = some (tA s 6 i) := ld7_g rfl hi (by decide)
theorem l7_7 {s : SS} {i : Nat} (hi : i < 64) : ld7 s 11 7 (Int32.ofNat i) = some (tA s 7 i) := ld7_g rfl hi (by decide)
theorem l7_8 {s : SS} {i : Nat} (hi : i < 9) : ld7 s 11 8 (Int32.ofNat i) = some (tA s 8 i) := ld7_g rfl hi (by decide)
theorem s7_2 {s : SS} {i : Nat} {v : Int32} (hi : i < 64) : st7 s 11 2 (Int32.ofNat i) v = some (vA s 2 i v) := st7_g rfl hi (by decide)
theorem s7_3 {s : SS} {i : Nat} {v : Int32} (hi : i < 64) : st7 s 11 3 (Int32.ofNat i) v = some (vA s 3 i v) := st7_g rfl hi (by decide)
theorem s7_4 {s : SS} {i : Nat} {v : Int32} (hi : i < 64) : st7 s 11 4 (Int32.ofNat i) v = some (vA s 4 i v) := st7_g rfl hi (by decide)
theorem s7_5 {s : SS} {i : Nat} {v : Int32} (hi : i < 64) : st7 s 11 5 (Int32.ofNat i) v = some (vA s 5 i v) := st7_g rfl hi (by decide)
theorem s7_6 {s : SS} {i : Nat} {v : Int32} (hi : i < 64) : st7 s 11 6 (Int32.ofNat i) v = some (vA s 6 i v) := st7_g rfl hi (by decide)
theorem s7_7 {s : SS} {i : Nat} {v : Int32} (hi : i < 64) : st7 s 11 7 (Int32.ofNat i) v = some (vA s 7 i v) := st7_g rfl hi (by decide)
theorem s7_8 {s : SS} {i : Nat} {v : Int32} (hi : i < 9) : st7 s 11 8 (Int32.ofNat i) v = some (vA s 8 i v) := st7_g rfl hi (by decide)
theorem bd7_some {α β : Type} (v : α) (s : SS) (k : α → SS → Option β) : bd7 (some (v, s)) k = k v s := rfl
theorem k7_is {s : SS} {k : Nat} (hk : k < 64) : gX9_isKey (Int32.ofNat k) s = some (1, s) := by
  unfold gX9_isKey
  rw [if_neg (by rw [io_nn (by omega)]; exact id), if_neg (by rw [show (64 : Int32) = Int32.ofNat 64 from rfl, io_le (by omega) (by omega)]; omega)]
/-! where COMPACTED cuts the events -/
theorem fe_lo {p : MS} : ∀ (d i : Nat) (j : Nat), i ≤ j → j < fE p d i → ¬ mF p 42 < mA p 34 j
  | 0, i, j, h1, h2 => by unfold fE at h2; omega
  | d + 1, i, j, h1, h2 => by
    unfold fE at h2
    by_cases z : mF p 42 < mA p 34 i
    · rw [if_pos z] at h2; omega
    · rw [if_neg z] at h2
      by_cases e : j = i
      · subst e; exact z
      · exact fe_lo d (i + 1) j (by omega) h2
theorem fe_hi {p : MS} : ∀ (d i : Nat), fE p d i < i + d → mF p 42 < mA p 34 (fE p d i)
  | 0, i, h => by unfold fE at h; omega
  | d + 1, i, h => by
    unfold fE at h ⊢
    by_cases z : mF p 42 < mA p 34 i
    · rw [if_pos z]; exact z
    · rw [if_neg z] at h ⊢
      exact fe_hi d (i + 1) (by omega)
theorem fv_lo {p : MS} {i : Nat} (h : i < fV p) : ¬ mF p 42 < mA p 34 i := fe_lo (nE p) 0 i (Nat.zero_le _) h
theorem fv_hi {p : MS} (h : fV p < nE p) : mF p 42 < mA p 34 (fV p) := fe_hi (nE p) 0 (by rw [Nat.zero_add]; exact h)
theorem fv_uq {p : MS} {F : Nat} (h0 : F ≤ nE p) (h1 : ∀ i, i < F → ¬ mF p 42 < mA p 34 i) (h2 : F < nE p → mF p 42 < mA p 34 F) : fV p = F := by
  have l := fV_le p
  by_cases a : fV p < F
  · exact absurd (fv_hi (by omega)) (h1 _ a)
  · by_cases b : F < fV p
    · exact absurd (h2 (by omega)) (fv_lo b)
    · omega
theorem fv_ev {p : MS} {k : Nat} {b v : Int32} (hn : nE p < 100000) (hr : mF p 42 < mF p 40) : fV (pEv p k b v) = fV p := by
  have l := fV_le p
  have e1 := nE_ev (k := k) (b := b) (v := v) hn
  have f42 : mF (pEv p k b v) 42 = mF p 42 := ev_f (by decide)
  refine fv_uq (by omega) (fun i hi => ?_) (fun h => ?_)
  · rw [f42, ev_x (Or.inr (Or.inr (by omega)))]; exact fv_lo hi
  · rw [f42]
    by_cases e : fV p = nE p
    · rw [e, ev_n.1]; exact hr
    · rw [ev_x (Or.inr (Or.inr e))]; exact fv_hi (by omega)
theorem lst_same {p p' : MS} {k : Nat} : ∀ (n : Nat), (∀ x i, 35 ≤ x → x ≤ 37 → i < n → mA p' x i = mA p x i) → lst p' k n = lst p k n
  | 0, _ => rfl
  | n + 1, h => by
    unfold lst
    rw [h 35 n (by decide) (by decide) (by omega), h 36 n (by decide) (by decide) (by omega), h 37 n (by decide) (by decide) (by omega), lst_same n (fun x i a b c => h x i a b (by omega))]
theorem coded_same {p p' : MS} {i : Nat} (h : ∀ x, 34 ≤ x → x ≤ 37 → mA p' x i = mA p x i) : coded p' i = coded p i := by
  unfold coded; rw [h 34 (by decide) (by decide), h 35 (by decide) (by decide), h 36 (by decide) (by decide), h 37 (by decide) (by decide)]
/-- as SC, the revision apart -/
def SCr (t : SS) (p : MS) (r : Int32) : Prop :=
  nE p ≤ 400 ∧ tF t 0 = r ∧ tF t 1 = mF p 42 ∧ tF t 4 = mF p 41 ∧
  (∀ k, k < 64 → tA t 2 k = mA p 27 k ∧ tA t 3 k = mA p 28 k ∧ tA t 4 k = mA p 29 k ∧ tA t 5 k = mA p 30 k ∧ tA t 6 k = mA p 31 k) ∧
  (∃ V, V < 256 ∧ tF t 12 = Int32.ofNat V ∧ ∀ l, l < 8 → (V.testBit l = true ↔ mA p 32 (l + 1) = 1)) ∧
  (∀ l, 1 ≤ l → l ≤ 8 → mA p 32 l = 1 → tA t 8 l = mA p 33 l) ∧
  (tF t 3 = Int32.ofNat (nE p - fV p) ∧ ∀ i, fV p + i < nE p → tK t 1 i = coded p (fV p + i)) ∧
  ∃ U, tG t 10 = Int64.ofNat U ∧ U < 2 ^ 64 ∧ ∀ k, k < 64 → (U.testBit k = true ↔ (lst p k (fV p)).1 = 1) ∧ tA t 7 k = (lst p k (fV p)).2
theorem sc_iff {t : SS} {p : MS} : SC t p ↔ SCr t p (mF p 40) := Iff.rfl
/-- the class notes an event -/
def tEv (t : SS) (i : Nat) (c : Int64) : SS := vF (vK t 1 i c) 3 (Int32.ofNat (i + 1))
theorem c7_add {t : SS} {i : Nat} {c : Int64} (h3 : tF t 3 = Int32.ofNat i) (hi : i < 464) : gX7_addEvent c t = some ((), tEv t i c) := by
  unfold gX7_addEvent rd7 wr7
  rw [bd_some, h3, if_neg (by rw [show (464 : Int32) = Int32.ofNat 464 from rfl, io_le (by omega) (by omega)]; omega), bd_some, sk7_g hi, bd_some, tF_vK, h3, bd_some, bd_some, io_a1]
  rfl
theorem c7_end1 {t : SS} {c : Int32} (h : 0 < c) : gX7_endRevision c t = some ((), vF t 0 (tF t 0 + 1)) := by
  unfold gX7_endRevision rd7 wr7
  rw [if_neg (Int32.not_le.mpr h), bd_some, bd_some]
theorem c7_end0 {t : SS} : gX7_endRevision 0 t = some ((), t) := by
  unfold gX7_endRevision; rw [if_pos (by decide)]
/-- an event is noted on both sides, and rows of key k change -/
theorem scr_ev {t t' : SS} {p p' : MS} {r r' : Int32} {k : Nat} {b v : Int32} (h : SCr t p r) (hn : nE p < 400) (n' : nE p' = nE p) (f42 : mF p' 42 = mF p 42) (f41 : mF p' 41 = mF p 41) (hr : mF p' 42 < mF p' 40) (ee : ∀ x i, 34 ≤ x → x ≤ 37 → mA p' x i = mA p x i) (e32 : ∀ l, mA p' 32 l = mA p 32 l) (e33 : ∀ l, mA p' 33 l = mA p 33 l) (hF : ∀ f, f ≠ 0 → tF t' f = tF t f) (h0 : tF t' 0 = r') (hA : ∀ j, j < 64 → tA t' 2 j = mA p' 27 j ∧ tA t' 3 j = mA p' 28 j ∧ tA t' 4 j = mA p' 29 j ∧ tA t' 5 j = mA p' 30 j ∧ tA t' 6 j = mA p' 31 j) (h78 : ∀ x i, x = 7 ∨ x = 8 → tA t' x i = tA t x i) (hK : ∀ i, tK t' 1 i = tK t 1 i) (hG : ∀ f, tG t' f = tG t f) : SCr (tEv t' (nE p - fV p) (coded (pEv p' k b v) (nE p))) (pEv p' k b v) r' ∧ tF t' 3 = Int32.ofNat (nE p - fV p) := by
  obtain ⟨a0, a1, a2, a3, a4, a5, a6, a7, U, a8, a9, a10⟩ := h
  have fl := fV_le p
  have fe : fV p' = fV p := fv_uq (by rw [n']; exact fl) (fun i hi => by rw [f42, ee 34 i (by decide) (by decide)]; exact fv_lo hi) (fun q => by rw [f42, ee 34 _ (by decide) (by decide)]; exact fv_hi (by omega))
  have en := nE_ev (p := p') (k := k) (b := b) (v := v) (by omega)
  have fv := fv_ev (p := p') (k := k) (b := b) (v := v) (by omega) hr
  have t3 : tF t' 3 = Int32.ofNat (nE p - fV p) := (hF 3 (by decide)).trans a7.1
  refine ⟨?_, t3⟩
  unfold SCr
  rw [en, fv, fe, n']
  refine ⟨by omega, ?_, ?_, ?_, fun j hj => ?_, ?_, fun l h1 h2 q => ?_, ⟨?_, fun i hi => ?_⟩, U, ?_, a9, fun j hj => ?_⟩
  · unfold tEv; rw [tF_vF, if_neg (by decide), tF_vK]; exact h0
  · unfold tEv; rw [tF_vF, if_neg (by decide), tF_vK, hF 1 (by decide), ev_f (by decide), f42]; exact a2
  · unfold tEv; rw [tF_vF, if_neg (by decide), tF_vK, hF 4 (by decide), ev_f (by decide), f41]; exact a3
  · unfold tEv
    rw [tA_vF, tA_vF, tA_vF, tA_vF, tA_vF, tA_vK, tA_vK, tA_vK, tA_vK, tA_vK, ev_x (Or.inl (by decide)), ev_x (Or.inl (by decide)), ev_x (Or.inl (by decide)), ev_x (Or.inl (by decide)), ev_x (Or.inl (by decide))]
    exact hA j hj
  · obtain ⟨V, v1, v2, v3⟩ := a5
    refine ⟨V, v1, ?_, fun l hl => ?_⟩
    · unfold tEv; rw [tF_vF, if_neg (by decide), tF_vK, hF 12 (by decide)]; exact v2
    · rw [ev_x (Or.inl (by decide)), e32]; exact v3 l hl
  · rw [ev_x (Or.inl (by decide)), e32] at q
    unfold tEv
    rw [tA_vF, tA_vK, h78 8 l (Or.inr rfl), ev_x (Or.inl (by decide)), e33]; exact a6 l h1 h2 q
  · unfold tEv; rw [tF_vF, if_pos rfl, show nE p - fV p + 1 = nE p + 1 - fV p by omega]
  · unfold tEv
    rw [tK_vF, tK_vK]
    by_cases z : i = nE p - fV p
    · rw [if_pos ⟨rfl, z⟩, z, show fV p + (nE p - fV p) = nE p by omega]
    · rw [if_neg (fun q => z q.2), hK, coded_same (fun x h1 h2 => (ev_x (Or.inr (Or.inr (by omega)))).trans (ee x _ h1 h2))]
      exact a7.2 i (by omega)
  · unfold tEv; rw [tG_vF, tG_vK, hG]; exact a8
  · unfold tEv
    rw [tA_vF, tA_vK, h78 7 j (Or.inl rfl), lst_same (p := p) (fV p) (fun x i h1 h2 h3 => (ev_x (Or.inr (Or.inr (by omega)))).trans (ee x i (by omega) h2))]
    exact a10 j hj
