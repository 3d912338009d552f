/-! ===== the five nodes; the reference's constructor ===== -/
section
variable {X : Nat} {h : Hp}
theorem bf_sR {f : Nat} {v : Option Nat} (hf : f ≠ gq 9 0) (w : BF X h) : BF X (sR h f X v) := by
  obtain ⟨k, ⟨r1, r2, r3, r4⟩, m, i, a, p1, p2, p3, p4, p5, p6⟩ := w
  refine ⟨k, ⟨?_, ?_, ?_, ?_⟩, m, i, a, p1, p2, p3, ?_, sw_sa (fun j hj => sa_sR (by omega)) p5, sc_sa (fun j hj => sa_sR (by omega)) p6⟩
  · rw [hR_sR, if_neg (fun q => hf q.1.symm)]; exact r1
  · rw [hR_sR, if_neg (by omega)]; exact r2
  · rw [hR_sR, if_neg (by omega)]; exact r3
  · rw [hR_sR, if_neg (by omega)]; exact r4
  · rw [hR_sR, if_neg (by omega)]; exact p4
end
theorem c_n48 {X : Nat} : ∀ (d i f : Nat) (h : Hp), i + d = 5 → d < f → hZ h = X + 17 + 15 * i → BF X h → (∀ n, n < i → NF X h (ndA X n) n ∧ aR h (X + 16) n = some (ndA X n)) → ∃ h', fX9_init_48 f X (X + 1) (X + 3) (X + 6) (Int32.ofNat i) h = some ((), h') ∧ hZ h' = X + 92 ∧ BF X h' ∧ (hR h' (gq 9 1) X = some (X + 1) ∧ hR h' (gq 9 2) X = some (X + 3)) ∧ ∀ n, n < 5 → NF X h' (ndA X n) n ∧ aR h' (X + 16) n = some (ndA X n) := by
  intro d
  induction d with
  | zero =>
    intro i f h h0 hf hz bf nf
    obtain ⟨f, rfl⟩ : ∃ g, f = g + 1 := ⟨f - 1, by omega⟩
    have e : i = 5 := by omega
    subst e
    have e0 : fX9_init_48 (f + 1) X (X + 1) (X + 3) (X + 6) (Int32.ofNat 5) h = fX9_init_48_body (fX9_init_48 f) X (X + 1) (X + 3) (X + 6) (Int32.ofNat 5) h := rfl
    have k0 := bf.1.1
    refine ⟨sR (sR h (gq 9 1) X (some (X + 1))) (gq 9 2) X (some (X + 3)), ?_, by rw [hZ_sR, hZ_sR]; omega, bf_sR (by decide) (bf_sR (by decide) bf), ⟨?_, ?_⟩, fun n hn => ⟨nf_sa (fun b h1 h2 => sa_trans (sa_sR (by unfold ndA at h1; omega)) (sa_sR (by unfold ndA at h1; omega))) (nf n hn).1, ?_⟩⟩
    · rw [e0]
      unfold fX9_init_48_body
      rw [if_pos (show (5 : Int32) ≤ Int32.ofNat 5 from Int32.le_refl _), pR_k k0, bd_some, pR_k ((hK_sR _ _ _ _ _).trans k0), bd_some]
    · rw [hR_sR, if_neg (fun q => absurd q.1 (by decide)), hR_sR, if_pos ⟨rfl, rfl⟩]
    · rw [hR_sR, if_pos ⟨rfl, rfl⟩]
    · rw [aR_sR, aR_sR]; exact (nf n hn).2
  | succ d ih =>
    intro i f h h0 hf hz bf nf
    obtain ⟨f, rfl⟩ : ∃ g, f = g + 1 := ⟨f - 1, by omega⟩
    have e0 : fX9_init_48 (f + 1) X (X + 1) (X + 3) (X + 6) (Int32.ofNat i) h = fX9_init_48_body (fX9_init_48 f) X (X + 1) (X + 3) (X + 6) (Int32.ofNat i) h := rfl
    have k0 := bf.1.1
    have k16 := bf.1.2.2.2.2.2.2
    have hz' : hZ h = ndA X i := hz
    obtain ⟨h7, a1, a2, a3, a4⟩ := c_node (X := X) (n := i) hz'
    have sa7 : ∀ b, b < hZ h → SA h h7 b := fun b hb => a2.2 b hb id
    have k16' : hK h7 (X + 16) = some (16, 5) := (sa7 _ (by omega)).1.trans k16
    have kn : hK h7 (ndA X i) = some (5, 0) := a4.1.1.1
    obtain ⟨h8, e8⟩ : ∃ x, x = tR h7 (X + 16) i (some (ndA X i)) := ⟨_, rfl⟩
    have sa8 : ∀ b, b ≠ X + 16 → SA h7 h8 b := fun b hb => by rw [e8]; exact sa_tR hb
    obtain ⟨h', b1, b2⟩ := ih (i + 1) f h8 (by omega) (by omega) (by rw [e8, hZ_tR, a3]; unfold ndA; omega) (bf_sa (fun b h1 h2 => sa_trans (sa7 b (by omega)) (sa8 b (by omega))) (by rw [e8, hK_tR]; exact (sa7 _ (by omega)).1) bf) (fun n hn => by
      by_cases z : n = i
      · subst z
        refine ⟨nf_sa (fun b h1 h2 => sa8 b (by unfold ndA at h1; omega)) a4, ?_⟩
        rw [e8, aR_tR, if_pos ⟨rfl, rfl⟩]
      · have nfn := nf n (by omega)
        refine ⟨nf_sa (fun b h1 h2 => sa_trans (sa7 b (by unfold ndA at h2; omega)) (sa8 b (by unfold ndA at h1; omega))) nfn.1, ?_⟩
        rw [e8, aR_tR, if_neg (fun q => z q.2), (sa7 _ (by omega)).2.2.2.2.2.2]
        exact nfn.2)
    refine ⟨h', ?_, b2⟩
    rw [e0]
    unfold fX9_init_48_body nwO
    rw [if_neg (i5_le (by omega)), gR_k k0, bf.2.1.1, bd_some, onR_some, bd_some, hz', a1, bd2_some, stR_k k16' (by omega) (by decide) kn, bd_some, ← e8, io_a1]
    exact b1
/-! the reference -/
def runL (M : Nat) (k : Hp → Option (Unit × Hp)) : List (Nat × Nat × Nat) → Hp → Option (Unit × Hp)
  | [], h => k h
  | q :: L, h => bd (mkA h q.1 (Int32.ofNat q.2.1) q.2.1) fun h1 => bd (pR h1 10 q.2.2 M (some (hZ h))) fun h2 => runL M k L h2
def alS (M : Nat) (q : Nat × Nat × Nat) (h : Hp) : Hp := sR (nA h q.1 q.2.1) (gq 10 q.2.2) M (some (hZ h))
def alL (M : Nat) : List (Nat × Nat × Nat) → Hp → Hp
  | [], h => h
  | q :: L, h => alL M L (alS M q h)
section
variable {M : Nat}
theorem als_Z (q : Nat × Nat × Nat) (h : Hp) : hZ (alS M q h) = hZ h + 1 := rfl
theorem als_K {q : Nat × Nat × Nat} {h : Hp} (z : M < hZ h) : hK (alS M q h) M = hK h M := by
  unfold alS
  rw [hK_sR, hK_nA, if_neg (by omega)]
theorem als_sa {q : Nat × Nat × Nat} {h : Hp} {a : Nat} (z : a < hZ h) (z2 : a ≠ M) : SA h (alS M q h) a := sa_trans (sa_nA (by omega)) (sa_sR z2)
theorem run_al {k : Hp → Option (Unit × Hp)} : ∀ (L : List (Nat × Nat × Nat)) (h : Hp), hK h M = some (10, 0) → M < hZ h → (∀ q ∈ L, q.2.1 < 2147483648) → runL M k L h = k (alL M L h)
  | [], _, _, _, _ => rfl
  | q :: L, h, kM, z, hl => by
    show (bd (mkA h q.1 (Int32.ofNat q.2.1) q.2.1) fun h1 => bd (pR h1 10 q.2.2 M (some (hZ h))) fun h2 => runL M k L h2) = k (alL M L (alS M q h))
    have kn : hK (nA h q.1 q.2.1) M = some (10, 0) := by rw [hK_nA, if_neg (by omega)]; exact kM
    rw [mkA_lit (hl q (List.mem_cons_self ..)), bd_some, pR_k kn, bd_some]
    exact run_al L (alS M q h) ((als_K z).trans kM) (by rw [als_Z]; omega) (fun q' hq' => hl q' (List.mem_cons_of_mem _ hq'))
theorem al_Z : ∀ (L : List (Nat × Nat × Nat)) (h : Hp), hZ (alL M L h) = hZ h + L.length
  | [], _ => rfl
  | q :: L, h => by
    show hZ (alL M L (alS M q h)) = _
    rw [al_Z L, als_Z, List.length_cons]; omega
theorem al_sa : ∀ (L : List (Nat × Nat × Nat)) (h : Hp) {a : Nat}, a < hZ h → a ≠ M → SA h (alL M L h) a
  | [], h, a, _, _ => sa_refl h a
  | q :: L, h, a, z, z2 => sa_trans (als_sa z z2) (al_sa L (alS M q h) (by rw [als_Z]; omega) z2)
theorem al_M : ∀ (L : List (Nat × Nat × Nat)) (h : Hp), M < hZ h → hK (alL M L h) M = hK h M ∧ (∀ g, hI (alL M L h) g M = hI h g M) ∧ ∀ g, (∀ q ∈ L, g ≠ gq 10 q.2.2) → hR (alL M L h) g M = hR h g M
  | [], h, _ => ⟨rfl, fun _ => rfl, fun _ _ => rfl⟩
  | q :: L, h, z => by
    obtain ⟨a1, a2, a3⟩ := al_M L (alS M q h) (by rw [als_Z]; omega)
    refine ⟨a1.trans (als_K z), fun g => (a2 g).trans rfl, fun g hg => (a3 g (fun q' hq' => hg q' (List.mem_cons_of_mem _ hq'))).trans ?_⟩
    unfold alS
    rw [hR_sR, if_neg (fun e => hg q (List.mem_cons_self ..) e.1), hR_nA]
theorem al_new : ∀ (L : List (Nat × Nat × Nat)) (h : Hp), M < hZ h → L.Pairwise (fun a b => a.2.2 ≠ b.2.2) → ∀ (i : Nat) (q : Nat × Nat × Nat), L[i]? = some q → hK (alL M L h) (hZ h + i) = some (q.1, q.2.1) ∧ (∀ j, aI (alL M L h) (hZ h + i) j = 0) ∧ hR (alL M L h) (gq 10 q.2.2) M = some (hZ h + i)
  | [], _, _, _, i, q, e => by simp at e
  | p :: L, h, z, w, i, q, e => by
    obtain ⟨w1, w2⟩ := List.pairwise_cons.mp w
    cases i with
    | zero =>
      have e' : p = q := by simpa using e
      subst e'
      have s := al_sa (M := M) L (alS M p h) (a := hZ h) (by rw [als_Z]; omega) (by omega)
      refine ⟨s.1.trans ?_, fun j => ?_, ?_⟩
      · unfold alS
        rw [hK_sR, hK_nA, if_pos rfl]
      · show aI (alL M L (alS M p h)) (hZ h) j = 0
        rw [s.2.2.2.2.1]
        unfold alS
        rw [aI_sR, aI_nA, if_pos rfl]
      · show hR (alL M L (alS M p h)) (gq 10 p.2.2) M = some (hZ h)
        rw [(al_M L (alS M p h) (by rw [als_Z]; omega)).2.2 _ (fun q' hq' e => w1 q' hq' (by unfold gq at e; omega))]
        unfold alS
        rw [hR_sR, if_pos ⟨rfl, rfl⟩]
    | succ i =>
      have e' : L[i]? = some q := by simpa using e
      have r := al_new L (alS M p h) (by rw [als_Z]; omega) w2 i q e'
      rw [als_Z, show hZ h + 1 + i = hZ h + (i + 1) by omega] at r
      exact r
end
def L38 : List (Nat × Nat × Nat) := [(13, 5, 1), (11, 5, 2), (11, 5, 3), (11, 5, 4), (11, 5, 5), (11, 5, 6), (11, 5, 7), (11, 5, 8), (11, 5, 9), (11, 5, 10), (11, 25, 11), (11, 25, 12), (11, 48040, 13), (11, 5, 14), (11, 3000, 15), (11, 3000, 16), (11, 3000, 17), (11, 3000, 18), (11, 3000, 19), (11, 3000, 20), (11, 3000, 21), (11, 3000, 22), (11, 96000, 23), (11, 576480, 25), (11, 3000, 26), (11, 8, 32), (11, 64, 33), (11, 64, 34), (11, 64, 35), (11, 64, 36), (11, 64, 37), (13, 9, 38), (11, 9, 39), (11, 5000, 43), (11, 5000, 44), (11, 5000, 45), (13, 5000, 46), (11, 1201, 48)]
theorem L38_len : L38.length = 38 := rfl
theorem L38_w : L38.Pairwise (fun a b => a.2.2 ≠ b.2.2) := by decide
theorem L38_b : ∀ q ∈ L38, q.2.1 < 2147483648 := by decide
theorem L38_k : ∀ k, k < 38 → (L38[k]?).map (fun q => (q.1, q.2.1)) = some (tagT (k + 1), lenT (k + 1)) := by decide
theorem L38_f : ∀ q ∈ fldT, 1 ≤ q.2 ∧ (L38[q.2 - 1]?).map (fun e => e.2.2) = some q.1 := by decide
theorem init_run (M : Nat) (h : Hp) : fX10_init M h = runL M (fun h76 => bd (pI h76 10 49 M (-1 : Int32)) fun h77 => bd (pI h77 10 50 M (-1 : Int32)) fun h78 => fX10_init_323 LF M (0 : Int32) h78) L38 h := rfl
theorem stZ_k {t L a i : Nat} {v : Int32} {h : Hp} (e : hK h a = some (t, L)) (hi : i < L) (hL : L < 100000) (hv : v = 0 ∨ v = 1) : stZ h t a (Int32.ofNat i) v = some (tI h a i v) := by
  unfold stZ
  rw [if_pos, io_cl (by omega)]
  refine ⟨?_, hv⟩
  unfold inB
  rw [e]
  simp only [Bool.and_eq_true, decide_eq_true_eq]
  rw [io_nn (by omega), io_cl (by omega)]
  exact ⟨trivial, fun q => q.elim id (fun z => by omega)⟩
theorem r_323 {M : Nat} : ∀ (d i f : Nat) (h : Hp), i + d = 5 → d < f → hK h M = some (10, 0) → hR h (gq 10 1) M = some (M + 1) → hR h (gq 10 3) M = some (M + 3) → hR h (gq 10 10) M = some (M + 10) → hK h (M + 1) = some (13, 5) → hK h (M + 3) = some (11, 5) → hK h (M + 10) = some (11, 5) → ∃ h', fX10_init_323 f M (Int32.ofNat i) h = some ((), h') ∧ (∀ x, hK h' x = hK h x) ∧ (∀ g x, hR h' g x = hR h g x) ∧ (∀ g x, hI h' g x = hI h g x) ∧ hZ h' = hZ h ∧ (∀ a, a ≠ M + 1 → a ≠ M + 3 → a ≠ M + 10 → SA h h' a) ∧ ∀ x j, aI h' x j = if x = M + 1 ∧ i ≤ j ∧ j < 5 then 1 else if (x = M + 3 ∨ x = M + 10) ∧ i ≤ j ∧ j < 5 then -1 else aI h x j := by
  intro d
  induction d with
  | zero =>
    intro i f h h0 hf k0 r1 r3 r10 k1 k3 k10
    obtain ⟨f, rfl⟩ : ∃ g, f = g + 1 := ⟨f - 1, by omega⟩
    have e : i = 5 := by omega
    subst e
    have e0 : fX10_init_323 (f + 1) M (Int32.ofNat 5) h = fX10_init_323_body (fX10_init_323 f) M (Int32.ofNat 5) h := rfl
    refine ⟨h, ?_, fun _ => rfl, fun _ _ => rfl, fun _ _ => rfl, rfl, fun a _ _ _ => sa_refl h a, fun x j => by rw [if_neg (by omega), if_neg (by omega)]⟩
    rw [e0]
    unfold fX10_init_323_body
    rw [if_pos (show (5 : Int32) ≤ Int32.ofNat 5 from Int32.le_refl _)]
  | succ d ih =>
    intro i f h h0 hf k0 r1 r3 r10 k1 k3 k10
    obtain ⟨f, rfl⟩ : ∃ g, f = g + 1 := ⟨f - 1, by omega⟩
    have e0 : fX10_init_323 (f + 1) M (Int32.ofNat i) h = fX10_init_323_body (fX10_init_323 f) M (Int32.ofNat i) h := rfl
    obtain ⟨h4, e4⟩ : ∃ x, x = tI h (M + 1) i 1 := ⟨_, rfl⟩
    obtain ⟨h7, e7⟩ : ∃ x, x = tI h4 (M + 3) i (-1) := ⟨_, rfl⟩
    obtain ⟨h10, e10⟩ : ∃ x, x = tI h7 (M + 10) i (-1) := ⟨_, rfl⟩
    have K4 : ∀ x, hK h4 x = hK h x := fun x => by rw [e4, hK_tI]
    have K7 : ∀ x, hK h7 x = hK h x := fun x => by rw [e7, hK_tI, K4]
    have K10 : ∀ x, hK h10 x = hK h x := fun x => by rw [e10, hK_tI, K7]
    have R4 : ∀ g x, hR h4 g x = hR h g x := fun g x => by rw [e4, hR_tI]
    have R7 : ∀ g x, hR h7 g x = hR h g x := fun g x => by rw [e7, hR_tI, R4]
    have R10 : ∀ g x, hR h10 g x = hR h g x := fun g x => by rw [e10, hR_tI, R7]
    have I10 : ∀ g x, hI h10 g x = hI h g x := fun g x => by rw [e10, hI_tI, e7, hI_tI, e4, hI_tI]
    have Z10 : hZ h10 = hZ h := by rw [e10, hZ_tI, e7, hZ_tI, e4, hZ_tI]
    have S10 : ∀ a, a ≠ M + 1 → a ≠ M + 3 → a ≠ M + 10 → SA h h10 a := fun a h1 h2 h3 => by rw [e10, e7, e4]; exact sa_trans (sa_trans (sa_tI h1) (sa_tI h2)) (sa_tI h3)
    obtain ⟨h', b1, b2, b3, b4, b5, b6, b7⟩ := ih (i + 1) f h10 (by omega) (by omega) ((K10 _).trans k0) ((R10 _ _).trans r1) ((R10 _ _).trans r3) ((R10 _ _).trans r10) ((K10 _).trans k1) ((K10 _).trans k3) ((K10 _).trans k10)
    refine ⟨h', ?_, fun x => (b2 x).trans (K10 x), fun g x => (b3 g x).trans (R10 g x), fun g x => (b4 g x).trans (I10 g x), b5.trans Z10, fun a h1 h2 h3 => sa_trans (S10 a h1 h2 h3) (b6 a h1 h2 h3), fun x j => ?_⟩
    · rw [e0]
      unfold fX10_init_323_body
      rw [if_neg (i5_le (by omega)), gR_k k0, r1, bd_some, onR_some, stZ_k k1 (by omega) (by decide) (Or.inr rfl), bd_some, ← e4, gR_k ((K4 _).trans k0), R4, r3, bd_some, onR_some, stI_k ((K4 _).trans k3) (by omega) (by decide), bd_some, ← e7, gR_k ((K7 _).trans k0), R7, r10, bd_some, onR_some, stI_k ((K7 _).trans k10) (by omega) (by decide), bd_some, ← e10, io_a1]
      exact b1
    · rw [b7, e10, aI_tI, e7, aI_tI, e4, aI_tI]
      by_cases x1 : x = M + 1
      · by_cases j1 : i ≤ j ∧ j < 5
        · rw [if_pos (⟨x1, j1⟩ : x = M + 1 ∧ i ≤ j ∧ j < 5)]
          by_cases ji : j = i
          · rw [if_neg (by omega), if_neg (by omega), if_neg (by omega), if_neg (by omega), if_pos ⟨x1, ji⟩]
          · rw [if_pos (by omega)]
        · rw [if_neg (by omega), if_neg (by omega), if_neg (by omega), if_neg (by omega), if_neg (by omega), if_neg (by omega), if_neg (by omega)]
      · by_cases x3 : (x = M + 3 ∨ x = M + 10) ∧ i ≤ j ∧ j < 5
        · rw [if_neg (show ¬ (x = M + 1 ∧ i + 1 ≤ j ∧ j < 5) by omega), if_neg (show ¬ (x = M + 1 ∧ i ≤ j ∧ j < 5) by omega), if_pos x3]
          by_cases ji : j = i
          · rw [if_neg (by omega)]
            by_cases x10 : x = M + 10
            · rw [if_pos ⟨x10, ji⟩]
            · rw [if_neg (by omega), if_pos (by omega)]
          · rw [if_pos (by omega)]
        · rw [if_neg (by omega), if_neg (by omega), if_neg (by omega), if_neg (by omega), if_neg (by omega), if_neg (by omega), if_neg x3]
