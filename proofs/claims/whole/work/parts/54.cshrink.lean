/-! ===== a new Store ===== -/
def nw7 (h : Hp) (t n f z : Nat) : Hp := sR (nA h t n) (gq 7 f) z (some (hZ h))
theorem nw_Z (h : Hp) (t n f z : Nat) : hZ (nw7 h t n f z) = hZ h + 1 := rfl
theorem nw_K (h : Hp) (t n f z x : Nat) : hK (nw7 h t n f z) x = if x = hZ h then some (t, n) else hK h x := rfl
theorem nw_R (h : Hp) (t n f z g x : Nat) : hR (nw7 h t n f z) g x = if g = gq 7 f ∧ x = z then some (hZ h) else hR h g x := rfl
theorem nw_I (h : Hp) (t n f z g x : Nat) : hI (nw7 h t n f z) g x = hI h g x := rfl
theorem nw_L (h : Hp) (t n f z g x : Nat) : hL (nw7 h t n f z) g x = hL h g x := rfl
theorem nw_aI (h : Hp) (t n f z x i : Nat) : aI (nw7 h t n f z) x i = if x = hZ h then 0 else aI h x i := rfl
theorem nw_aL (h : Hp) (t n f z x i : Nat) : aL (nw7 h t n f z) x i = if x = hZ h then 0 else aL h x i := rfl
theorem ch_nw {h0 h : Hp} {t n f z : Nat} (c : Ch h0 h (fun _ => False)) (e : hZ h0 ≤ z) : Ch h0 (nw7 h t n f z) (fun _ => False) := ch_sRn (ch_nAn c) e
theorem c_nw {h : Hp} {t n N f z : Nat} (k : hK h z = some (7, 0)) (hz : z ≠ hZ h) (hn : n ≤ N) (hn' : n < 100000) (K : Hp → Option (Unit × Hp)) : (bd (mkA h t (Int32.ofNat n) N) fun h2 => bd (pR h2 7 f z (some (hZ h))) fun h3 => K h3) = K (nw7 h t n f z) := by
  unfold mkA
  rw [if_pos (by rw [io_nn (by omega), io_cl (by omega)]; exact ⟨id, hn⟩), io_cl (by omega), bd_some, pR_k (by show (if z = hZ h then some (t, n) else hK h z) = _; rw [if_neg hz]; exact k), bd_some]
  rfl
def nS1 (h : Hp) : Hp := sI (nO h 7) (gq 7 0) (hZ h) 1
def nS2 (h : Hp) : Hp := nw7 (nS1 h) 12 464 2 (hZ h)
def nS3 (h : Hp) : Hp := nw7 (nS2 h) 11 64 5 (hZ h)
def nS4 (h : Hp) : Hp := nw7 (nS3 h) 11 64 6 (hZ h)
def nS5 (h : Hp) : Hp := nw7 (nS4 h) 11 64 7 (hZ h)
def nS6 (h : Hp) : Hp := nw7 (nS5 h) 11 64 8 (hZ h)
def nS7 (h : Hp) : Hp := nw7 (nS6 h) 11 64 9 (hZ h)
def nS8 (h : Hp) : Hp := nw7 (nS7 h) 11 64 11 (hZ h)
def nS (h : Hp) : Hp := nw7 (nS8 h) 11 9 13 (hZ h)
theorem z1 (h : Hp) : hZ (nS1 h) = hZ h + 1 := rfl
theorem z2 (h : Hp) : hZ (nS2 h) = hZ h + 2 := by unfold nS2; rw [nw_Z, z1]
theorem z3 (h : Hp) : hZ (nS3 h) = hZ h + 3 := by unfold nS3; rw [nw_Z, z2]
theorem z4 (h : Hp) : hZ (nS4 h) = hZ h + 4 := by unfold nS4; rw [nw_Z, z3]
theorem z5 (h : Hp) : hZ (nS5 h) = hZ h + 5 := by unfold nS5; rw [nw_Z, z4]
theorem z6 (h : Hp) : hZ (nS6 h) = hZ h + 6 := by unfold nS6; rw [nw_Z, z5]
theorem z7 (h : Hp) : hZ (nS7 h) = hZ h + 7 := by unfold nS7; rw [nw_Z, z6]
theorem z8 (h : Hp) : hZ (nS8 h) = hZ h + 8 := by unfold nS8; rw [nw_Z, z7]
theorem z9 (h : Hp) : hZ (nS h) = hZ h + 9 := by unfold nS; rw [nw_Z, z8]
theorem ch_nS1 (h : Hp) : Ch h (nS1 h) (fun _ => False) := ch_sIn ch_nO (Nat.le_refl _)
theorem ch_nS (h : Hp) : Ch h (nS h) (fun _ => False) := ch_nw (ch_nw (ch_nw (ch_nw (ch_nw (ch_nw (ch_nw (ch_nw (ch_nS1 h) (Nat.le_refl _)) (Nat.le_refl _)) (Nat.le_refl _)) (Nat.le_refl _)) (Nat.le_refl _)) (Nat.le_refl _)) (Nat.le_refl _)) (Nat.le_refl _)
theorem k_nS1 (h : Hp) (x : Nat) : hK (nS1 h) x = if x = hZ h then some (7, 0) else hK h x := by unfold nS1; rw [hK_sI, hK_nO]
theorem k_nS (h : Hp) (x : Nat) : hK (nS h) x = if x = hZ h + 8 then some (11, 9) else if x = hZ h + 7 then some (11, 64) else if x = hZ h + 6 then some (11, 64) else if x = hZ h + 5 then some (11, 64) else if x = hZ h + 4 then some (11, 64) else if x = hZ h + 3 then some (11, 64) else if x = hZ h + 2 then some (11, 64) else if x = hZ h + 1 then some (12, 464) else if x = hZ h then some (7, 0) else hK h x := by
  unfold nS; rw [nw_K, z8]; unfold nS8; rw [nw_K, z7]; unfold nS7; rw [nw_K, z6]; unfold nS6; rw [nw_K, z5]; unfold nS5; rw [nw_K, z4]; unfold nS4; rw [nw_K, z3]; unfold nS3; rw [nw_K, z2]; unfold nS2; rw [nw_K, z1, k_nS1]
theorem r_nS (h : Hp) (g : Nat) : hR (nS h) g (hZ h) = if g = gq 7 13 then some (hZ h + 8) else if g = gq 7 11 then some (hZ h + 7) else if g = gq 7 9 then some (hZ h + 6) else if g = gq 7 8 then some (hZ h + 5) else if g = gq 7 7 then some (hZ h + 4) else if g = gq 7 6 then some (hZ h + 3) else if g = gq 7 5 then some (hZ h + 2) else if g = gq 7 2 then some (hZ h + 1) else hR (nS1 h) g (hZ h) := by
  unfold nS; rw [nw_R, z8]; unfold nS8; rw [nw_R, z7]; unfold nS7; rw [nw_R, z6]; unfold nS6; rw [nw_R, z5]; unfold nS5; rw [nw_R, z4]; unfold nS4; rw [nw_R, z3]; unfold nS3; rw [nw_R, z2]; unfold nS2; rw [nw_R, z1]
  simp only [and_true]
theorem sw_nS (h : Hp) : SW (hZ h) (nS h) := by
  refine ⟨?_, fun k h1 h2 => ?_, fun q hq => ?_⟩
  · rw [k_nS]; simp
  · have : k = 1 ∨ k = 2 ∨ k = 3 ∨ k = 4 ∨ k = 5 ∨ k = 6 ∨ k = 7 ∨ k = 8 := by omega
    rw [k_nS]
    rcases this with e | e | e | e | e | e | e | e <;> subst e <;> simp [tag7, len7]
  · rw [r_nS]
    simp only [fld7, List.mem_cons, List.not_mem_nil, or_false] at hq
    rcases hq with e | e | e | e | e | e | e | e <;> subst e <;> simp [gq]
theorem c_init7 (h : Hp) : fX7_init (hZ h) (nO h 7) = some ((), nS h) := by
  have kk : ∀ (x : Hp), Ch (nS1 h) x (fun _ => False) → hK x (hZ h) = some (7, 0) := fun x c => (c.2 (hZ h) (by rw [z1]; omega) id).1.trans (by rw [k_nS1, if_pos rfl])
  have c1 := ch_refl (nS1 h) (fun _ => False)
  have st : ∀ {x : Hp} {t n f : Nat}, Ch (nS1 h) x (fun _ => False) → Ch (nS1 h) (nw7 x t n f (hZ h)) (fun _ => True) := fun c => ⟨Nat.le_trans c.1 (Nat.le_succ _), fun a _ q => absurd trivial q⟩
  have k1 : hK (nS1 h) (hZ h) = some (7, 0) := by rw [k_nS1, if_pos rfl]
  have kn : ∀ {x : Hp} {t n f : Nat}, hK x (hZ h) = some (7, 0) → hZ h ≠ hZ x → hK (nw7 x t n f (hZ h)) (hZ h) = some (7, 0) := fun k e => by rw [nw_K, if_neg e]; exact k
  have k2 : hK (nS2 h) (hZ h) = some (7, 0) := kn k1 (by rw [z1]; omega)
  have k3 : hK (nS3 h) (hZ h) = some (7, 0) := kn k2 (by rw [z2]; omega)
  have k4 : hK (nS4 h) (hZ h) = some (7, 0) := kn k3 (by rw [z3]; omega)
  have k5 : hK (nS5 h) (hZ h) = some (7, 0) := kn k4 (by rw [z4]; omega)
  have k6 : hK (nS6 h) (hZ h) = some (7, 0) := kn k5 (by rw [z5]; omega)
  have k7 : hK (nS7 h) (hZ h) = some (7, 0) := kn k6 (by rw [z6]; omega)
  have k8 : hK (nS8 h) (hZ h) = some (7, 0) := kn k7 (by rw [z7]; omega)
  have k0 : hK (nO h 7) (hZ h) = some (7, 0) := by rw [hK_nO, if_pos rfl]
  unfold fX7_init
  rw [pI_k k0, bd_some, show (464 : Int32) = Int32.ofNat 464 from rfl, show (64 : Int32) = Int32.ofNat 64 from rfl, show (9 : Int32) = Int32.ofNat 9 from rfl]
  rw [show sI (nO h 7) (gq 7 0) (hZ h) 1 = nS1 h from rfl, c_nw k1 (by rw [z1]; omega) (by decide) (by decide)]
  rw [show nw7 (nS1 h) 12 464 2 (hZ h) = nS2 h from rfl, c_nw k2 (by rw [z2]; omega) (by decide) (by decide)]
  rw [show nw7 (nS2 h) 11 64 5 (hZ h) = nS3 h from rfl, c_nw k3 (by rw [z3]; omega) (by decide) (by decide)]
  rw [show nw7 (nS3 h) 11 64 6 (hZ h) = nS4 h from rfl, c_nw k4 (by rw [z4]; omega) (by decide) (by decide)]
  rw [show nw7 (nS4 h) 11 64 7 (hZ h) = nS5 h from rfl, c_nw k5 (by rw [z5]; omega) (by decide) (by decide)]
  rw [show nw7 (nS5 h) 11 64 8 (hZ h) = nS6 h from rfl, c_nw k6 (by rw [z6]; omega) (by decide) (by decide)]
  rw [show nw7 (nS6 h) 11 64 9 (hZ h) = nS7 h from rfl, c_nw k7 (by rw [z7]; omega) (by decide) (by decide)]
  rw [show nw7 (nS7 h) 11 64 11 (hZ h) = nS8 h from rfl, c_nw k8 (by rw [z8]; omega) (by decide) (by decide)]
  rw [nS]
