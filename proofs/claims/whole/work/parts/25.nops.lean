/-! ===== the reference's single acts ===== -/
theorem ms_ext {s s' : MS} (h : ∀ k i, mA s k i = mA s' k i) (f : ∀ k, mF s k = mF s' k) : s = s' := by
  have e1 : s.1 = s'.1 := funext fun k => funext fun i => h k i
  have e2 : s.2 = s'.2 := funext f
  exact Prod.ext e1 e2
/-- message k comes -/
def oM (k : Nat) (t n m T a b c d : Int32) (s : MS) : MS := (fun x i => if i = k then (if x = 15 then t else if x = 16 then n else if x = 17 then m else if x = 18 then T else if x = 19 then a else if x = 20 then b else if x = 21 then c else if x = 22 then d else s.1 x i) else s.1 x i, up1 s.2 24 (Int32.ofNat (k + 1)))
/-- cells of one row copied to another -/
def oC (dst d0 src s0 cnt : Nat) (s : MS) : MS := (fun x i => if x = dst ∧ d0 ≤ i ∧ i < d0 + cnt then s.1 src (s0 + (i - d0)) else s.1 x i, s.2)
/-- an entry comes, at idx, and is the last -/
def oE (n idx : Nat) (r : Nat → Int32) (s : MS) : MS := (fun x i => if x = 13 ∧ (n * 1201 + idx) * 8 ≤ i ∧ i < (n * 1201 + idx) * 8 + 8 then r (i - (n * 1201 + idx) * 8) else if x = 5 ∧ i = n then Int32.ofNat idx else s.1 x i, s.2)
def oD (n : Nat) (s : MS) : MS := uA (uA (uA s 1 n 0) 8 n 0) 10 n (-1)
def oP (n : Nat) (s : MS) : MS := if mA s 10 n ≤ 0 then s else uA s 10 n (mA s 10 n - 1)
theorem mF_oM (k : Nat) (t n m T a b c d : Int32) (s : MS) (f : Nat) : mF (oM k t n m T a b c d s) f = if f = 24 then Int32.ofNat (k + 1) else mF s f := rfl
theorem mF_oC (dst d0 src s0 cnt : Nat) (s : MS) (f : Nat) : mF (oC dst d0 src s0 cnt s) f = mF s f := rfl
theorem mF_oE (n idx : Nat) (r : Nat → Int32) (s : MS) (f : Nat) : mF (oE n idx r s) f = mF s f := rfl
theorem mF_oD (n : Nat) (s : MS) (f : Nat) : mF (oD n s) f = mF s f := rfl
theorem mF_oP (n : Nat) (s : MS) (f : Nat) : mF (oP n s) f = mF s f := by unfold oP; split <;> rfl
theorem mA_oC (dst d0 src s0 cnt : Nat) (s : MS) (x i : Nat) : mA (oC dst d0 src s0 cnt s) x i = if x = dst ∧ d0 ≤ i ∧ i < d0 + cnt then mA s src (s0 + (i - d0)) else mA s x i := rfl
theorem mA_oE (n idx : Nat) (r : Nat → Int32) (s : MS) (x i : Nat) : mA (oE n idx r s) x i = if x = 13 ∧ (n * 1201 + idx) * 8 ≤ i ∧ i < (n * 1201 + idx) * 8 + 8 then r (i - (n * 1201 + idx) * 8) else if x = 5 ∧ i = n then Int32.ofNat idx else mA s x i := rfl
theorem mA_oM (k : Nat) (t n m T a b c d : Int32) (s : MS) (x i : Nat) : mA (oM k t n m T a b c d s) x i = if i = k then (if x = 15 then t else if x = 16 then n else if x = 17 then m else if x = 18 then T else if x = 19 then a else if x = 20 then b else if x = 21 then c else if x = 22 then d else mA s x i) else mA s x i := rfl
theorem mA_oMx (k : Nat) (t n m T a b c d : Int32) (s : MS) {x : Nat} (i : Nat) (h : x < 15 ∨ 22 < x) : mA (oM k t n m T a b c d s) x i = mA s x i := by
  rw [mA_oM]
  split
  · rw [if_neg (by omega), if_neg (by omega), if_neg (by omega), if_neg (by omega), if_neg (by omega), if_neg (by omega), if_neg (by omega), if_neg (by omega)]
  · rfl
theorem mA_oP (n : Nat) (s : MS) {x : Nat} (i : Nat) (h : x ≠ 10) : mA (oP n s) x i = mA s x i := by
  unfold oP; split
  · rfl
  · exact mA_k _ _ _ _ h
theorem oC_0 (dst d0 src s0 : Nat) (s : MS) : oC dst d0 src s0 0 s = s := ms_ext (fun x i => by rw [mA_oC, if_neg (by omega)]) (fun _ => rfl)
theorem oC_s (dst d0 src s0 cnt : Nat) (s : MS) (h : dst ≠ src) : uA (oC dst d0 src s0 cnt s) dst (d0 + cnt) (mA (oC dst d0 src s0 cnt s) src (s0 + cnt)) = oC dst d0 src s0 (cnt + 1) s := ms_ext (fun x i => by
  rw [mA_uA, mA_oC, mA_oC, mA_oC]
  rw [if_neg (show ¬ (src = dst ∧ d0 ≤ s0 + cnt ∧ s0 + cnt < d0 + cnt) by omega)]
  by_cases e : x = dst ∧ i = d0 + cnt
  · rw [if_pos e, if_pos (show x = dst ∧ d0 ≤ i ∧ i < d0 + (cnt + 1) by omega), e.2, Nat.add_sub_cancel_left]
  · rw [if_neg e]
    by_cases f : x = dst ∧ d0 ≤ i ∧ i < d0 + cnt
    · rw [if_pos f, if_pos (by omega)]
    · rw [if_neg f, if_neg (by omega)]) (fun _ => rfl)
theorem g_record {s : MS} {n : Nat} (hn : n < 5) : gX10_record (Int32.ofNat n) s = if mA s 10 n = 0 then some (0, oD n s) else some (1, oP n s) := by
  unfold gX10_record gX10_down
  simp (disch := omega) only [ld_10, st_10, st_8, s0_1, bd_some, bdm_some]
  by_cases h : mA s 10 n = 0
  · rw [if_pos h, if_pos h]; rfl
  · rw [if_neg h, if_neg h]
    unfold oP
    by_cases h2 : mA s 10 n ≤ 0
    · rw [if_pos h2, if_pos h2]
    · rw [if_neg h2, if_neg h2]
theorem io_n3 {k : Nat} (h : k < 3000) : ¬ (Int32.ofNat k = (3000 : Int32)) := by
  rw [show (3000 : Int32) = Int32.ofNat 3000 from rfl, io_eq (by omega) (by omega)]; omega
theorem g_made {s : MS} {n k : Nat} {t m : Int32} (hn : n < 5) (hc : mF s 24 = Int32.ofNat k) (hk : k < 3000) : gX10_made t (Int32.ofNat n) m s = some (Int32.ofNat k, oM k t (Int32.ofNat n) m (mA s 2 n) 0 0 0 0 s) := by
  unfold gX10_made rdF wrF
  simp (disch := omega) only [bd_some, mF_uA, hc, io_n3 hk, if_false, st_15, st_16, st_17, st_18, st_19, st_20, st_21, st_22, ld_2, mF_h, io_a1]
  rw [io_s1 (by omega), Nat.add_sub_cancel]
  refine congrArg some (Prod.ext rfl (ms_ext (fun x i => ?_) (fun f => ?_)))
  · rw [mA_oM, mA_uF]
    simp only [mA_uA]
    by_cases e : i = k
    · subst e
      simp only [and_true, if_true]
      by_cases e1 : x = 22
      · subst e1; rfl
      by_cases e2 : x = 21
      · subst e2; rfl
      by_cases e3 : x = 20
      · subst e3; rfl
      by_cases e4 : x = 19
      · subst e4; rfl
      by_cases e5 : x = 18
      · subst e5; simp
      by_cases e6 : x = 17
      · subst e6; rfl
      by_cases e7 : x = 16
      · subst e7; rfl
      by_cases e8 : x = 15
      · subst e8; rfl
      simp only [e1, e2, e3, e4, e5, e6, e7, e8, if_false]
    · simp only [e, and_false, if_false]
  · rw [mF_oM, mF_uF]; rfl
theorem g_answer {s : MS} {n k : Nat} {t m v : Int32} (hn : n < 5) (hc : mF s 24 = Int32.ofNat k) (hk : k < 3000) : gX10_answer t (Int32.ofNat n) m v s = some ((), oM k t (Int32.ofNat n) m (mA s 2 n) v 0 0 0 s) := by
  unfold gX10_answer
  rw [g_made hn hc hk, bdm_some, if_neg (by rw [io_nn (by omega)]; exact id), st_19 hk, bd_some]
  refine congrArg some (Prod.ext rfl (ms_ext (fun x i => ?_) (fun f => rfl)))
  rw [mA_uA, mA_oM, mA_oM]
  by_cases e : i = k
  · by_cases e1 : x = 19
    · rw [if_pos ⟨e1, e⟩, if_pos e, e1]; rfl
    · rw [if_neg (fun q => e1 q.1), if_pos e, if_pos e]
      simp only [e1, if_false]
  · rw [if_neg (fun q => e q.2), if_neg e, if_neg e]
