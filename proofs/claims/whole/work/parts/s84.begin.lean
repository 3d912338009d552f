/-! ===== the start holds ===== -/
def gh0 : GH := (fun _ _ => 0, fun _ _ _ _ => 0, fun _ _ => 0, fun _ => 0, fun _ _ _ => 0, fun _ => 0, fun _ _ => 0)
theorem mi_init {s : MS} (u : ∀ n, n < 5 → mA s 1 n = 1) (v : ∀ n, n < 5 → mA s 3 n = -1) (z : ∀ k i, 1 ≤ k → k ≤ 38 → k ≠ 1 → k ≠ 3 → k ≠ 10 → mA s k i = 0) (f1 : mF s 24 = 0) (f2 : mF s 27 = 0) : MI s gh0 0 0 0 := by
  have t0 : ∀ n, tmM s n = 0 := fun n => by unfold tmM; rw [z 2 n (by decide) (by decide) (by decide) (by decide) (by decide)]; rfl
  have r0 : ∀ n, rlM s n = 0 := fun n => by unfold rlM; rw [z 8 n (by decide) (by decide) (by decide) (by decide) (by decide)]; rfl
  have l0 : ∀ n, lsM s n = 0 := fun n => by unfold lsM; rw [z 5 n (by decide) (by decide) (by decide) (by decide) (by decide)]; rfl
  have b0 : ∀ n, bsM s n = 0 := fun n => by unfold bsM; rw [z 4 n (by decide) (by decide) (by decide) (by decide) (by decide)]; rfl
  have c0 : ∀ n, cmM s n = 0 := fun n => by
    unfold cmM
    rw [z 4 n (by decide) (by decide) (by decide) (by decide) (by decide), z 6 n (by decide) (by decide) (by decide) (by decide) (by decide)]
    split <;> rfl
  have g0 : ∀ n i, lgM s n i = e0M := fun n i => by
    funext j
    unfold lgM
    split
    · rw [z 13 _ (by decide) (by decide) (by decide) (by decide) (by decide)]; rfl
    · rfl
  have ne : ∀ {c : Nat} {P : Prop}, 0 = c + 1 → P := fun q => absurd q (by omega)
  have E : ∀ T i, gE gh0 T i = e0M := fun _ _ => rfl
  refine ⟨⟨⟨rfl, fun _ => rfl, fun _ _ _ => ⟨rfl, rfl⟩⟩, ⟨fun n => g0 n 0, fun _ => rfl, fun _ _ q => ne q, fun _ _ _ q => ne q⟩, ⟨rfl, fun _ => ⟨fun _ => rfl, fun _ q => ne q⟩⟩, fun w i h1 h2 => absurd h2 (by rw [l0]; omega), fun T i h1 h2 => absurd (show i ≤ 0 from h2) (by omega), fun _ _ _ q => ne q, fun w q => absurd q (by rw [r0]; decide), fun w q => absurd q (by rw [r0]; decide), fun _ _ => Nat.le_refl 0, fun w => ⟨Nat.zero_le _, fun i hi => (g0 w i).trans (E _ i).symm⟩, fun w T i _ h1 h2 => absurd (show i ≤ 0 from h2) (by omega), fun _ _ _ _ _ q => ne q, fun T _ _ q => absurd rfl q, fun w => ⟨by rw [c0]; exact Nat.zero_le _, by rw [b0]; exact Nat.zero_le _, Or.inl (c0 w)⟩⟩, fun n hn => ?_, fun w => by rw [t0]; exact Nat.le_refl 0, fun _ => Nat.le_refl 0, fun _ _ => Nat.zero_le _, f1, f2, by decide, fun k hk => absurd hk (Nat.not_lt_zero _), fun T i h1 h2 => absurd (show i ≤ 0 from h2) (by omega)⟩
  have z' := fun k (h1 : 1 ≤ k) (h2 : k ≤ 38) (h3 : k ≠ 1) (h4 : k ≠ 3) (h5 : k ≠ 10) => z k n h1 h2 h3 h4 h5
  unfold NI
  rw [z' 2 (by decide) (by decide) (by decide) (by decide) (by decide), z' 4 (by decide) (by decide) (by decide) (by decide) (by decide), z' 5 (by decide) (by decide) (by decide) (by decide) (by decide), z' 6 (by decide) (by decide) (by decide) (by decide) (by decide), z' 8 (by decide) (by decide) (by decide) (by decide) (by decide), u n hn, v n hn]
  exact ⟨Or.inr rfl, by decide, by decide, by decide, by decide, Or.inl rfl, fun q => absurd q (by decide), rfl, fun q => absurd q (by decide), fun q => absurd q (by decide)⟩
/-- the reference's state, read off -/
def rdM (M : Nat) (h : Hp) : MS := (fun k i => aI h (M + k) i, fun f => hI h (640 + f) M)
theorem pm_rd (M : Nat) (h : Hp) : pm M h (rdM M h) = h := by
  have e1 : hI (pm M h (rdM M h)) = hI h := by
    funext f a
    show (if a = M ∧ 640 ≤ f ∧ f < 704 then hI h (640 + (f - 640)) M else hI h f a) = hI h f a
    by_cases z : a = M ∧ 640 ≤ f ∧ f < 704
    · rw [if_pos z, show 640 + (f - 640) = f by omega, z.1]
    · rw [if_neg z]
  have e2 : aI (pm M h (rdM M h)) = aI h := by
    funext a i
    show (if M < a ∧ a ≤ M + 38 then aI h (M + (a - M)) i else aI h a i) = aI h a i
    by_cases z : M < a ∧ a ≤ M + 38
    · rw [if_pos z, show M + (a - M) = a by omega]
    · rw [if_neg z]
  have e3 : pm M h (rdM M h) = mkH (hK h) (hI (pm M h (rdM M h))) (hL h) (hR h) (aI (pm M h (rdM M h))) (aL h) (aR h) (hZ h) := rfl
  rw [e3, e1, e2]
  rfl
theorem rx_init {X M : Nat} {h : Hp} {s : MS} (hM : M = X + 92) (hz : M + 40 ≤ hZ h) (bf : BF X h) (r1 : hR h (gq 9 1) X = some (X + 1)) (r2 : hR h (gq 9 2) X = some (X + 3)) (nf : ∀ n, n < 5 → NF X h (ndA X n) n ∧ aR h (X + 16) n = some (ndA X n)) (u : ∀ n, n < 5 → mA s 1 n = 1) (v : ∀ n, n < 5 → mA s 3 n = -1) (p : ∀ n, n < 5 → mA s 10 n = -1) (z : ∀ k i, 1 ≤ k → k ≤ 38 → k ≠ 1 → k ≠ 3 → k ≠ 10 → mA s k i = 0) (f : ∀ k, k = 24 ∨ k = 27 ∨ (28 ≤ k ∧ k ≤ 31) → mF s k = 0) : RX X M h s gh0 0 := by
  obtain ⟨⟨k0, k1, k2, k3, k4, k5, k6⟩, ⟨q1, q2, q3, q4⟩, ⟨m1, m2, m3, m4⟩, ⟨i1, i2, i3⟩, ⟨a1, a2⟩, p1, p2, p3, p4, p5, p6⟩ := bf
  have im : ∀ a, X + 6 ≤ a → a ≤ X + 15 → IM X M h a := fun a h1 h2 => ⟨by omega, Or.inr ⟨h1, h2⟩⟩
  have b0 : ∀ n, bsM s n = 0 := fun n => by unfold bsM; rw [z 4 n (by decide) (by decide) (by decide) (by decide) (by decide)]; rfl
  have l0 : ∀ n, lsM s n = 0 := fun n => by unfold lsM; rw [z 5 n (by decide) (by decide) (by decide) (by decide) (by decide)]; rfl
  have sv : SV X M h (X + 6) 0 0 pZero := ⟨im _ (by omega) (by omega), p1, p2, p3, X + 7, p4, fun j hj => im _ (by omega) (by omega), p5, p6⟩
  refine ⟨⟨⟨k0, k1, k2, k3, k4, k5, k6⟩, ⟨q1, r1, r2, q2, q3, q4⟩, fun n hn => (nf n hn).2, hz, hM⟩, fun n hn => ?_, ⟨?_, ?_, fun k hk => absurd hk (Nat.not_lt_zero _)⟩, ⟨i3, fun T _ => a1 T, fun i q _ hq => ?_⟩, ⟨?_, ?_, ?_, ?_⟩⟩
  · obtain ⟨n1, ⟨j1, j2, j3, j4, j5, j6, j7, j8, j9⟩, ⟨b1, b2⟩, r, c⟩ := (nf n hn).1
    refine ⟨n1, ?_, ⟨⟨X + 6, fun _ => e0M, 0, r, rfl, ?_, ?_⟩, fun i e1 e2 => absurd e2 (by rw [l0]; omega)⟩, fun _ => ⟨0, fun _ => e0M, 0, j4, by rw [b0]; exact Nat.le_refl 0, Nat.zero_le _, Or.inl rfl, c, fun i e1 e2 => absurd e2 (by omega)⟩⟩
    · unfold NV
      rw [u n hn, v n hn, p n hn, z 2 n (by decide) (by decide) (by decide) (by decide) (by decide), z 4 n (by decide) (by decide) (by decide) (by decide) (by decide), z 5 n (by decide) (by decide) (by decide) (by decide) (by decide), z 6 n (by decide) (by decide) (by decide) (by decide) (by decide), z 7 n (by decide) (by decide) (by decide) (by decide) (by decide), z 8 n (by decide) (by decide) (by decide) (by decide) (by decide)]
      refine ⟨j1, j2, j3, fun q => absurd q (by decide), fun _ => ⟨j5, by decide⟩, j6, j7, j8, j9, fun m hm => ?_⟩
      rw [z 11 _ (by decide) (by decide) (by decide) (by decide) (by decide), z 12 _ (by decide) (by decide) (by decide) (by decide) (by decide)]
      exact ⟨b1 m, b2 m⟩
    · rw [b0]; exact Or.inl rfl
    · rw [b0, z 4 n (by decide) (by decide) (by decide) (by decide) (by decide)]
      exact sv
  · rw [f 24 (by omega)]; exact i1
  · rw [f 27 (by omega)]; exact i2
  · rw [a2 i] at hq; cases hq
  · rw [f 28 (by omega)]; exact m1
  · rw [f 29 (by omega)]; exact m2
  · rw [f 30 (by omega)]; exact m3
  · rw [f 31 (by omega)]; exact m4
theorem ref_init {M : Nat} {h : Hp} (hz : hZ h = M) : ∃ h4, fX10_init M (nO h 10) = some ((), h4) ∧ MW M h4 ∧ hZ h4 = M + 39 ∧ (∀ a, a < M → SA h h4 a) ∧ (∀ f, hI h4 (gq 10 f) M = if f = 50 then -1 else if f = 49 then -1 else 0) ∧ ∀ k i, 1 ≤ k → k ≤ 38 → aI h4 (M + k) i = if k = 1 ∧ i < 5 then 1 else if (k = 3 ∨ k = 10) ∧ i < 5 then -1 else 0 := by
  have zO : hZ (nO h 10) = M + 1 := by rw [hZ_nO, hz]
  have kO : hK (nO h 10) M = some (10, 0) := by rw [hK_nO, if_pos hz.symm]
  have iO : ∀ g, hI (nO h 10) g M = 0 := fun g => by rw [hI_nO, if_pos hz.symm]
  have sO : ∀ a, a < M → SA h (nO h 10) a := fun a ha => sa_nO (by omega)
  obtain ⟨h3, e3⟩ : ∃ x, x = nO h 10 := ⟨_, rfl⟩
  rw [← e3] at zO kO iO sO ⊢
  rw [init_run, run_al L38 h3 kO (by omega) L38_b]
  have aZ := al_Z (M := M) L38 h3
  have aM := al_M (M := M) L38 h3 (by omega)
  have aN := al_new (M := M) L38 h3 (by omega) L38_w
  have aS : ∀ a, a < M → SA h3 (alL M L38 h3) a := fun a ha => al_sa L38 h3 (by omega) (by omega)
  rw [L38_len, zO] at aZ
  rw [zO] at aN
  generalize alL M L38 h3 = h5 at *
  obtain ⟨aM1, aM2, aM3⟩ := aM
  have nk : ∀ k, 1 ≤ k → k ≤ 38 → hK h5 (M + k) = some (tagT k, lenT k) ∧ ∀ j, aI h5 (M + k) j = 0 := fun k h1 h2 => by
    have e := L38_k (k - 1) (by omega)
    cases o : L38[k - 1]? with
    | none => rw [o] at e; cases e
    | some q =>
      rw [o] at e
      have e2 := Option.some.inj e
      have r := aN (k - 1) q o
      rw [show M + 1 + (k - 1) = M + k by omega] at r
      rw [show k - 1 + 1 = k by omega] at e2
      refine ⟨r.1.trans (congrArg some ?_), r.2.1⟩
      exact e2
  have nr : ∀ q ∈ fldT, hR h5 (gq 10 q.1) M = some (M + q.2) := fun q hq => by
    obtain ⟨l1, e⟩ := L38_f q hq
    cases o : L38[q.2 - 1]? with
    | none => rw [o] at e; cases e
    | some p =>
      rw [o] at e
      have e2 : p.2.2 = q.1 := Option.some.inj e
      have r := (aN (q.2 - 1) p o).2.2
      rw [e2, show M + 1 + (q.2 - 1) = M + q.2 by omega] at r
      exact r
  have k5 : hK h5 M = some (10, 0) := aM1.trans kO
  obtain ⟨h7, e7⟩ : ∃ x, x = sI (sI h5 (gq 10 49) M (-1)) (gq 10 50) M (-1) := ⟨_, rfl⟩
  have K7 : ∀ x, hK h7 x = hK h5 x := fun x => by rw [e7, hK_sI, hK_sI]
  have R7 : ∀ g x, hR h7 g x = hR h5 g x := fun g x => by rw [e7, hR_sI, hR_sI]
  have Z7 : hZ h7 = hZ h5 := by rw [e7, hZ_sI, hZ_sI]
  have S7 : ∀ a, a ≠ M → SA h5 h7 a := fun a ha => by rw [e7]; exact sa_trans (sa_sI ha) (sa_sI ha)
  obtain ⟨h4, b1, b2, b3, b4, b5, b6, b7⟩ := r_323 (M := M) 5 0 LF h7 rfl (LF_lt (by decide)) ((K7 _).trans k5) ((R7 _ _).trans (nr (1, 1) (by decide))) ((R7 _ _).trans (nr (3, 3) (by decide))) ((R7 _ _).trans (nr (10, 10) (by decide))) ((K7 _).trans (nk 1 (by decide) (by decide)).1) ((K7 _).trans (nk 3 (by decide) (by decide)).1) ((K7 _).trans (nk 10 (by decide) (by decide)).1)
  refine ⟨h4, ?_, ⟨(b2 _).trans ((K7 _).trans k5), fun k h1 h2 => (b2 _).trans ((K7 _).trans (nk k h1 h2).1), fun q hq => (b3 _ _).trans ((R7 _ _).trans (nr q hq))⟩, by rw [b5, Z7, aZ], fun a ha => sa_trans (sO a ha) (sa_trans (aS a ha) (sa_trans (S7 a (by omega)) (b6 a (by omega) (by omega) (by omega)))), fun f => ?_, fun k i h1 h2 => ?_⟩
  · show (bd (pI h5 10 49 M (-1 : Int32)) fun h77 => bd (pI h77 10 50 M (-1 : Int32)) fun h78 => fX10_init_323 LF M (0 : Int32) h78) = some ((), h4)
    rw [pI_k k5, bd_some, pI_k ((hK_sI _ _ _ _ _).trans k5), bd_some, ← e7, show (0 : Int32) = Int32.ofNat 0 from rfl]
    exact b1
  · rw [b4, e7, hI_sI, hI_sI, aM2, iO]
    by_cases f5 : f = 50
    · rw [if_pos ⟨by rw [f5], rfl⟩, if_pos f5]
    · rw [if_neg (fun q => f5 (by have := q.1; unfold gq at this; omega)), if_neg f5]
      by_cases f4 : f = 49
      · rw [if_pos ⟨by rw [f4], rfl⟩, if_pos f4]
      · rw [if_neg (fun q => f4 (by have := q.1; unfold gq at this; omega)), if_neg f4]
  · rw [b7, (S7 (M + k) (by omega)).2.2.2.2.1, (nk k h1 h2).2 i]
    by_cases x1 : k = 1 ∧ i < 5
    · rw [if_pos (by omega), if_pos x1]
    · rw [if_neg (by omega), if_neg x1]
      by_cases x3 : (k = 3 ∨ k = 10) ∧ i < 5
      · rw [if_pos (by omega), if_pos x3]
      · rw [if_neg (by omega), if_neg x3]
theorem start_ok : StartOK := by
  intro X
  obtain ⟨hb, a1, a2, a3⟩ := c_base (X := X) (h := h00 X) rfl
  obtain ⟨h2, b1, b2, b3, b4, b5⟩ := c_n48 (X := X) 5 0 8 hb rfl (by decide) (by omega) a3 (fun n hn => absurd hn (Nat.not_lt_zero _))
  obtain ⟨h4, c1, c2, c3, c4, c5, c6⟩ := ref_init (M := X + 92) b2
  refine ⟨JJ X (X + 92), nO (h00 X) 9, h2, nO h2 10, h4, nA h4 12 1, rfl, a1.trans b1, rfl, by rw [b2]; exact c1, mkA_lit (n := 1) (by decide), ?_, fun j _ h J => jj_up J, ?_⟩
  · have sN : ∀ a, a < X + 92 + 39 → SA h4 (nA h4 12 1) a := fun a ha => sa_nA (by omega)
    have sa : ∀ a, a < X + 92 → SA h2 (nA h4 12 1) a := fun a ha => sa_trans (c4 a ha) (sN a (by omega))
    have kN : hK (nA h4 12 1) (X + 92 + 39) = some (12, 1) := by rw [hK_nA, if_pos c3.symm]
    have zN : hZ (nA h4 12 1) = X + 92 + 40 := by rw [hZ_nA, c3]
    have mw : MW (X + 92) (nA h4 12 1) := by
      obtain ⟨w1, w2, w3⟩ := c2
      exact ⟨(sN _ (by omega)).1.trans w1, fun k h1 h2 => (sN _ (by omega)).1.trans (w2 k h1 h2), fun q hq => ((sN _ (by omega)).2.2.2.1 _).trans (w3 q hq)⟩
    have iN : ∀ f, hI (nA h4 12 1) (gq 10 f) (X + 92) = if f = 50 then -1 else if f = 49 then -1 else 0 := fun f => ((sN _ (by omega)).2.1 _).trans (c5 f)
    have aN : ∀ k i, 1 ≤ k → k ≤ 38 → aI (nA h4 12 1) (X + 92 + k) i = if k = 1 ∧ i < 5 then 1 else if (k = 3 ∨ k = 10) ∧ i < 5 then -1 else 0 := fun k i h1 h2 => by rw [(sN _ (by omega)).2.2.2.2.1]; exact c6 k i h1 h2
    have bf := bf_sa (fun b h1 h2 => sa b (by omega)) (sa _ (by omega)).1 b3
    have nf : ∀ n, n < 5 → NF X (nA h4 12 1) (ndA X n) n ∧ aR (nA h4 12 1) (X + 16) n = some (ndA X n) := fun n hn => ⟨nf_sa (fun b h1 h2 => sa b (by unfold ndA at h2; omega)) (b5 n hn).1, by rw [(sa _ (by omega)).2.2.2.2.2.2]; exact (b5 n hn).2⟩
    have r1 := ((sa X (by omega)).2.2.2.1 _).trans b4.1
    have r2 := ((sa X (by omega)).2.2.2.1 _).trans b4.2
    generalize nA h4 12 1 = h5 at *
    have sA : ∀ k i, mA (rdM (X + 92) h5) k i = aI h5 (X + 92 + k) i := fun _ _ => rfl
    have sF : ∀ f, mF (rdM (X + 92) h5) f = hI h5 (gq 10 f) (X + 92) := fun _ => rfl
    have u : ∀ n, n < 5 → mA (rdM (X + 92) h5) 1 n = 1 := fun n hn => by rw [sA, aN 1 n (by decide) (by decide), if_pos ⟨rfl, hn⟩]
    have v : ∀ n, n < 5 → mA (rdM (X + 92) h5) 3 n = -1 := fun n hn => by rw [sA, aN 3 n (by decide) (by decide), if_neg (by omega), if_pos ⟨Or.inl rfl, hn⟩]
    have p : ∀ n, n < 5 → mA (rdM (X + 92) h5) 10 n = -1 := fun n hn => by rw [sA, aN 10 n (by decide) (by decide), if_neg (by omega), if_pos ⟨Or.inr rfl, hn⟩]
    have z : ∀ k i, 1 ≤ k → k ≤ 38 → k ≠ 1 → k ≠ 3 → k ≠ 10 → mA (rdM (X + 92) h5) k i = 0 := fun k i h1 h2 h3 h4 h5' => by rw [sA, aN k i h1 h2, if_neg (by omega), if_neg (by omega)]
    have f0 : ∀ f, f ≠ 50 → f ≠ 49 → mF (rdM (X + 92) h5) f = 0 := fun f h1 h2 => by rw [sF, iN, if_neg h1, if_neg h2]
    refine ⟨rdM (X + 92) h5, ⟨mw, pm_rd _ _, kN⟩, gh0, 0, 0, rx_init rfl (by omega) bf r1 r2 nf u v p z (fun k hk => f0 k (by omega) (by omega)), mi_init u v z (f0 24 (by decide) (by decide)) (f0 27 (by decide) (by decide)), Or.inl ?_, fun n hn _ => ?_, by omega⟩
    · rw [sF, iN, if_neg (by decide), if_pos rfl]
    · rw [z 6 n (by decide) (by decide) (by decide) (by decide) (by decide)]
      exact (nf n hn).1.2.1.2.2.2.1
  · rw [b2, c3]
    exact law_ok rfl
