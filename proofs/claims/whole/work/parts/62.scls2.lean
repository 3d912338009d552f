theorem scr_r {t : SS} {p : MS} {r r2 : Int32} (h : SCr t p r) : SCr (vF t 0 r2) p r2 := by
  obtain ⟨a0, a1, a2, a3, a4, a5, a6, a7, a8⟩ := h
  exact ⟨a0, by rw [tF_vF, if_pos rfl], by rw [tF_vF, if_neg (by decide)]; exact a2, by rw [tF_vF, if_neg (by decide)]; exact a3, a4, by
    obtain ⟨V, v1, v2, v3⟩ := a5
    exact ⟨V, v1, by rw [tF_vF, if_neg (by decide)]; exact v2, v3⟩, a6, ⟨by rw [tF_vF, if_neg (by decide)]; exact a7.1, a7.2⟩, a8⟩
/-- COMPACTED is not above the revision -/
theorem pi_cr {p : MS} {N : Nat} (h : PI p N) (hN : N < 10000) : mF p 42 < mF p 40 + 1 := by
  obtain ⟨⟨R, C, a1, a2, a3, a4, a5⟩, b1, _⟩ := h
  have := a5.2.1
  rw [a1, a3, io_a1, io_lt (by omega) (by omega)]; omega
/-- rows of key k, in the class -/
def tPu (t : SS) (k : Nat) (n v l : Int32) : SS := vA (vA (vA (vA t 2 k (tA t 2 k + 1)) 4 k n) 5 k v) 6 k l
def tCa (t : SS) (k : Nat) (n : Int32) : SS := if tA t 2 k = 0 then vA t 3 k n else t
theorem c7_put {t : SS} {p : MS} {N k : Nat} {v l : Int32} (h : SC t p) (pi : PI p N) (hN : N ≤ 190) (hk : k < 64) : ∃ t', gX7_put (Int32.ofNat k) v l t = some ((), t') ∧ SC t' (pPut p k v l) := by
  have hn := pi_n pi
  have fl := fV_le p
  obtain ⟨a0, a1, a2, a3, a4, a5, a6, a7, a8⟩ := id h
  obtain ⟨p1, hp1⟩ : ∃ p1, p1 = pPu (pCa (uF p 40 (mF p 40 + 1)) k) k v l := ⟨_, rfl⟩
  obtain ⟨t1, ht1⟩ : ∃ t1, t1 = tPu (tCa t k (mF p 40 + 1)) k (mF p 40 + 1) v l := ⟨_, rfl⟩
  have ep : pPut p k v l = pEv p1 k 1 v := by rw [hp1]; rfl
  have f40 : mF p1 40 = mF p 40 + 1 := by rw [hp1, pu_f, ca_f, mF_h]
  have fo : ∀ f, f ≠ 40 → mF p1 f = mF p f := fun f hf => by rw [hp1, pu_f, ca_f, mF_n _ _ hf]
  have eo : ∀ x i, 32 ≤ x → mA p1 x i = mA p x i := fun x i hx => by rw [hp1, pu_x (by omega), ca_x (by omega)]; rfl
  have n1 : nE p1 = nE p := nE_f (fo 47 (by decide))
  have caF : ∀ f, tF (tCa t k (mF p 40 + 1)) f = tF t f := fun f => by unfold tCa; split <;> rfl
  have caK : ∀ i, tK (tCa t k (mF p 40 + 1)) 1 i = tK t 1 i := fun i => by unfold tCa; split <;> rfl
  have caG : ∀ f, tG (tCa t k (mF p 40 + 1)) f = tG t f := fun f => by unfold tCa; split <;> rfl
  have caA : ∀ x i, x ≠ 3 → tA (tCa t k (mF p 40 + 1)) x i = tA t x i := fun x i hx => by
    unfold tCa; split
    · rw [tA_vA, if_neg (fun q => hx q.1)]
    · rfl
  have k27 := (a4 k hk).1
  obtain ⟨s1, s2⟩ := scr_ev (t' := t1) (p' := p1) (r' := mF p 40) (k := k) (b := 1) (v := v) (sc_iff.mp h) (by omega) n1 (fo 42 (by decide)) (fo 41 (by decide)) (by rw [fo 42 (by decide), f40]; exact pi_cr pi (by omega)) (fun x i h1 h2 => eo x i (by omega)) (fun l => eo 32 l (by decide)) (fun l => eo 33 l (by decide)) (fun f _ => by rw [ht1]; show tF (tCa _ _ _) f = _; exact caF f) (by rw [ht1]; show tF (tCa _ _ _) 0 = _; rw [caF]; exact a1) (fun j hj => by
      obtain ⟨b1, b2, b3, b4, b5⟩ := a4 j hj
      rw [ht1, hp1]
      unfold tPu pPu
      simp only [tA_vA, mA_uA]
      by_cases e : j = k
      · subst e
        simp [caA 2 _ (by decide), ca_x, ca_f, mF_h]
        refine ⟨?_, ?_⟩
        · rw [b1]; rfl
        · unfold tCa pCa
          by_cases z : mA p 27 j = 0
          · rw [if_pos (by rw [b1]; exact z), if_pos (show mA (uF p 40 (mF p 40 + 1)) 27 j = 0 from z), tA_vA, if_pos ⟨rfl, rfl⟩, mA_h, mF_h]
          · rw [if_neg (by rw [b1]; exact z), if_neg (show ¬ mA (uF p 40 (mF p 40 + 1)) 27 j = 0 from z)]; exact b2
      · simp [e]
        rw [caA 2 j (by decide), caA 4 j (by decide), caA 5 j (by decide), caA 6 j (by decide), ca_x (x := 27) (by decide), ca_x (x := 29) (by decide), ca_x (x := 30) (by decide), ca_x (x := 31) (by decide)]
        refine ⟨b1, ?_, b3, b4, b5⟩
        unfold tCa pCa
        split <;> split
        · rw [tA_vA, if_neg (fun q => e q.2), mA_i _ _ _ _ e]; exact b2
        · rw [tA_vA, if_neg (fun q => e q.2)]; exact b2
        · rw [mA_i _ _ _ _ e]; exact b2
        · exact b2) (fun x i hx => by rw [ht1]; unfold tPu; simp only [tA_vA]; rw [if_neg (by omega), if_neg (by omega), if_neg (by omega), if_neg (by omega)]; exact caA x i (by omega)) (fun i => by rw [ht1]; exact caK i) (fun f => by rw [ht1]; exact caG f)
  have cd : coded (pEv p1 k 1 v) (nE p) = (((mF p 40 + 1).toInt64 <<< ((38 : Int32).toInt64 &&& 63)) + ((Int32.ofNat k).toInt64 <<< ((32 : Int32).toInt64 &&& 63))) + (v.toInt64 &&& (4294967295 : Int64)) := by
    obtain ⟨q1, q2, q3, q4⟩ := ev_n (p := p1) (k := k) (b := 1) (v := v)
    rw [n1] at q1 q2 q3 q4
    unfold coded
    rw [q1, q2, q3, q4, if_neg (by decide), f40]
  refine ⟨vF (tEv t1 (nE p - fV p) (coded (pEv p1 k 1 v) (nE p))) 0 (mF p 40 + 1), ?_, ?_⟩
  · have add := c7_add (c := coded (pEv p1 k 1 v) (nE p)) s2 (show nE p - fV p < 464 by omega)
    rw [cd] at add
    unfold gX7_put rd7
    rw [k7_is hk, bd7_some, if_neg (by decide), bd_some, l7_2 hk, bd_some, a1]
    have p33 : gX7_put_33 (Int32.ofNat k) v l (mF p 40 + 1) (tCa t k (mF p 40 + 1)) = some ((), vF (tEv t1 (nE p - fV p) (coded (pEv p1 k 1 v) (nE p))) 0 (mF p 40 + 1)) := by
      unfold gX7_put_33
      rw [l7_2 hk, bd_some, s7_2 hk, bd_some, s7_4 hk, bd_some, s7_5 hk, bd_some, s7_6 hk, bd_some]
      show bd7 (gX7_addEvent _ (tPu (tCa t k (mF p 40 + 1)) k (mF p 40 + 1) v l)) _ = _
      have s0 := s1.2.1
      rw [cd] at s0
      rw [← ht1, add, bd7_some, c7_end1 (by decide), bd7_some, cd, s0]
    unfold tCa at p33
    by_cases z : tA t 2 k = 0
    · rw [if_pos z] at p33 ⊢
      rw [s7_3 hk, bd_some]; exact p33
    · rw [if_neg z] at p33 ⊢
      exact p33
  · rw [ep, sc_iff, ev_f (by decide), f40]; exact scr_r s1
