/-! ===== ints that are natural numbers ===== -/
theorem io_cl {n : Nat} (h : n < 2147483648) : (Int32.ofNat n).toNatClampNeg = n := Int32.toNatClampNeg_ofNat_of_lt h
theorem io_ti {n : Nat} (h : n < 2147483648) : (Int32.ofNat n).toInt = n := Int32.toInt_ofNat_of_lt h
theorem io_lt {a b : Nat} (ha : a < 2147483648) (hb : b < 2147483648) : (Int32.ofNat a < Int32.ofNat b) = (a < b) := propext (Int32.ofNat_lt_iff_lt ha hb)
theorem io_le {a b : Nat} (ha : a < 2147483648) (hb : b < 2147483648) : (Int32.ofNat a ≤ Int32.ofNat b) = (a ≤ b) := propext (Int32.ofNat_le_iff_le ha hb)
theorem io_eq {a b : Nat} (ha : a < 2147483648) (hb : b < 2147483648) : (Int32.ofNat a = Int32.ofNat b) = (a = b) := propext ⟨fun h => by have := congrArg Int32.toNatClampNeg h; rw [io_cl ha, io_cl hb] at this; exact this, fun h => by rw [h]⟩
theorem io_nn {a : Nat} (ha : a < 2147483648) : (Int32.ofNat a < 0) = False := by
  rw [show (0 : Int32) = Int32.ofNat 0 from rfl, io_lt ha (by omega)]
  exact propext ⟨fun h => by omega, fun h => h.elim⟩
theorem io_nl {a : Nat} (ha : a < 2147483648) : (0 ≤ Int32.ofNat a) = True := by
  rw [show (0 : Int32) = Int32.ofNat 0 from rfl, io_le (by omega) ha]
  exact propext ⟨fun _ => trivial, fun _ => Nat.zero_le _⟩
theorem io_ad (a b : Nat) : Int32.ofNat a + Int32.ofNat b = Int32.ofNat (a + b) := (Int32.ofNat_add a b).symm
theorem io_a1 (a : Nat) : Int32.ofNat a + (1 : Int32) = Int32.ofNat (a + 1) := (Int32.ofNat_add a 1).symm
theorem io_mu (a b : Nat) : Int32.ofNat a * Int32.ofNat b = Int32.ofNat (a * b) := (Int32.ofNat_mul a b).symm
theorem io_m5 (a : Nat) : (5 : Int32) * Int32.ofNat a = Int32.ofNat (5 * a) := (Int32.ofNat_mul 5 a).symm
theorem io_m12 (a : Nat) : Int32.ofNat a * (1201 : Int32) = Int32.ofNat (a * 1201) := (Int32.ofNat_mul a 1201).symm
theorem io_m8 (a : Nat) : Int32.ofNat a * (8 : Int32) = Int32.ofNat (a * 8) := (Int32.ofNat_mul a 8).symm
theorem io_m4 (a : Nat) : Int32.ofNat a * (4 : Int32) = Int32.ofNat (a * 4) := (Int32.ofNat_mul a 4).symm
theorem io_sb {a b : Nat} (h : b ≤ a) : Int32.ofNat a - Int32.ofNat b = Int32.ofNat (a - b) := (Int32.ofNat_sub a b h).symm
theorem io_s1 {a : Nat} (h : 1 ≤ a) : Int32.ofNat a - (1 : Int32) = Int32.ofNat (a - 1) := (Int32.ofNat_sub a 1 h).symm
theorem io_l {a c : Nat} (ha : a < 2147483648) (hc : c < 2147483648) {x : Int32} (hx : x = Int32.ofNat c) : (Int32.ofNat a < x) = (a < c) ∧ (x < Int32.ofNat a) = (c < a) ∧ (Int32.ofNat a ≤ x) = (a ≤ c) ∧ (x ≤ Int32.ofNat a) = (c ≤ a) ∧ (Int32.ofNat a = x) = (a = c) ∧ (x = Int32.ofNat a) = (c = a) := by
  subst hx; exact ⟨io_lt ha hc, io_lt hc ha, io_le ha hc, io_le hc ha, io_eq ha hc, io_eq hc ha⟩
theorem io_of {x : Int32} (h : 0 ≤ x) : x = Int32.ofNat x.toNatClampNeg := (Int32.ofNat_toNatClampNeg x h).symm
theorem io_mn {a b : Nat} (ha : a < 2147483648) (hb : b < 2147483648) : mn (Int32.ofNat a) (Int32.ofNat b) = Int32.ofNat (min a b) := by
  unfold mn
  by_cases h : b < a
  · rw [if_pos (by rw [io_lt hb ha]; exact h), Nat.min_eq_right (by omega)]
  · rw [if_neg (by rw [io_lt hb ha]; exact h), Nat.min_eq_left (by omega)]
theorem io_mx {a b : Nat} (ha : a < 2147483648) (hb : b < 2147483648) : mx (Int32.ofNat a) (Int32.ofNat b) = Int32.ofNat (max a b) := by
  unfold mx
  by_cases h : a < b
  · rw [if_pos (by rw [io_lt ha hb]; exact h), Nat.max_eq_right (by omega)]
  · rw [if_neg (by rw [io_lt ha hb]; exact h), Nat.max_eq_left (by omega)]
theorem bdm_some {α β : Type} (v : α) (s : MS) (k : α → MS → Option β) : bdm (some (v, s)) k = k v s := rfl
theorem mF_uA (s : MS) (k i : Nat) (v : Int32) (f : Nat) : mF (uA s k i v) f = mF s f := rfl
theorem mA_uF (s : MS) (f : Nat) (v : Int32) (k i : Nat) : mA (uF s f v) k i = mA s k i := rfl
theorem mA_uA (s : MS) (k i : Nat) (v : Int32) (k' i' : Nat) : mA (uA s k i v) k' i' = if k' = k ∧ i' = i then v else mA s k' i' := rfl
theorem mF_uF (s : MS) (f : Nat) (v : Int32) (f' : Nat) : mF (uF s f v) f' = if f' = f then v else mF s f' := rfl
theorem mA_h (s : MS) (k i : Nat) (v : Int32) : mA (uA s k i v) k i = v := if_pos ⟨rfl, rfl⟩
theorem mA_k (s : MS) {k k' : Nat} (i i' : Nat) (v : Int32) (h : k' ≠ k) : mA (uA s k i v) k' i' = mA s k' i' := if_neg (fun q => h q.1)
theorem mA_i (s : MS) {i i' : Nat} (k k' : Nat) (v : Int32) (h : i' ≠ i) : mA (uA s k i v) k' i' = mA s k' i' := if_neg (fun q => h q.2)
theorem mF_h (s : MS) (k : Nat) (v : Int32) : mF (uF s k v) k = v := if_pos rfl
theorem mF_n (s : MS) {k k' : Nat} (v : Int32) (h : k' ≠ k) : mF (uF s k v) k' = mF s k' := if_neg h
theorem ld_g {s : MS} {t k i : Nat} (ht : tagT k = t) (hi : i < lenT k) (hl : lenT k ≤ 600000) : ldA s t k (Int32.ofNat i) = some (mA s k i) := by
  unfold ldA
  rw [io_cl (by omega), if_pos ⟨ht, fun h => by rw [io_nn (by omega)] at h; rcases h with h | h; exact h; omega⟩]
theorem st_g {s : MS} {t k i : Nat} {v : Int32} (ht : tagT k = t) (hi : i < lenT k) (hl : lenT k ≤ 600000) : stA s t k (Int32.ofNat i) v = some (uA s k i v) := by
  unfold stA
  rw [io_cl (by omega), if_pos ⟨ht, fun h => by rw [io_nn (by omega)] at h; rcases h with h | h; exact h; omega⟩]
theorem sb_g {s : MS} {t k i : Nat} {v : Int32} (ht : tagT k = t) (hi : i < lenT k) (hl : lenT k ≤ 600000) (hv : v = 0 ∨ v = 1) : stB s t k (Int32.ofNat i) v = some (uA s k i v) := by
  unfold stB
  rw [io_cl (by omega), if_pos ⟨⟨ht, fun h => by rw [io_nn (by omega)] at h; rcases h with h | h; exact h; omega⟩, hv⟩]

theorem ld_1 {s : MS} {i : Nat} (hi : i < 5) : ldA s 13 1 (Int32.ofNat i) = some (mA s 1 i) := ld_g rfl hi (by decide)
theorem st_1 {s : MS} {i : Nat} {v : Int32} (hi : i < 5) (hv : v = 0 ∨ v = 1) : stB s 13 1 (Int32.ofNat i) v = some (uA s 1 i v) := sb_g rfl hi (by decide) hv
theorem s0_1 {s : MS} {i : Nat} (hi : i < 5) : stB s 13 1 (Int32.ofNat i) (0 : Int32) = some (uA s 1 i 0) := sb_g rfl hi (by decide) (Or.inl rfl)
theorem s1_1 {s : MS} {i : Nat} (hi : i < 5) : stB s 13 1 (Int32.ofNat i) (1 : Int32) = some (uA s 1 i 1) := sb_g rfl hi (by decide) (Or.inr rfl)
theorem ld_2 {s : MS} {i : Nat} (hi : i < 5) : ldA s 11 2 (Int32.ofNat i) = some (mA s 2 i) := ld_g rfl hi (by decide)
theorem st_2 {s : MS} {i : Nat} {v : Int32} (hi : i < 5) : stA s 11 2 (Int32.ofNat i) v = some (uA s 2 i v) := st_g rfl hi (by decide)
theorem ld_3 {s : MS} {i : Nat} (hi : i < 5) : ldA s 11 3 (Int32.ofNat i) = some (mA s 3 i) := ld_g rfl hi (by decide)
theorem st_3 {s : MS} {i : Nat} {v : Int32} (hi : i < 5) : stA s 11 3 (Int32.ofNat i) v = some (uA s 3 i v) := st_g rfl hi (by decide)
theorem ld_4 {s : MS} {i : Nat} (hi : i < 5) : ldA s 11 4 (Int32.ofNat i) = some (mA s 4 i) := ld_g rfl hi (by decide)
theorem st_4 {s : MS} {i : Nat} {v : Int32} (hi : i < 5) : stA s 11 4 (Int32.ofNat i) v = some (uA s 4 i v) := st_g rfl hi (by decide)
theorem ld_5 {s : MS} {i : Nat} (hi : i < 5) : ldA s 11 5 (Int32.ofNat i) = some (mA s 5 i) := ld_g rfl hi (by decide)
theorem st_5 {s : MS} {i : Nat} {v : Int32} (hi : i < 5) : stA s 11 5 (Int32.ofNat i) v = some (uA s 5 i v) := st_g rfl hi (by decide)
theorem ld_6 {s : MS} {i : Nat} (hi : i < 5) : ldA s 11 6 (Int32.ofNat i) = some (mA s 6 i) := ld_g rfl hi (by decide)
theorem st_6 {s : MS} {i : Nat} {v : Int32} (hi : i < 5) : stA s 11 6 (Int32.ofNat i) v = some (uA s 6 i v) := st_g rfl hi (by decide)
theorem ld_7 {s : MS} {i : Nat} (hi : i < 5) : ldA s 11 7 (Int32.ofNat i) = some (mA s 7 i) := ld_g rfl hi (by decide)
theorem st_7 {s : MS} {i : Nat} {v : Int32} (hi : i < 5) : stA s 11 7 (Int32.ofNat i) v = some (uA s 7 i v) := st_g rfl hi (by decide)
theorem ld_8 {s : MS} {i : Nat} (hi : i < 5) : ldA s 11 8 (Int32.ofNat i) = some (mA s 8 i) := ld_g rfl hi (by decide)
theorem st_8 {s : MS} {i : Nat} {v : Int32} (hi : i < 5) : stA s 11 8 (Int32.ofNat i) v = some (uA s 8 i v) := st_g rfl hi (by decide)
theorem ld_9 {s : MS} {i : Nat} (hi : i < 5) : ldA s 11 9 (Int32.ofNat i) = some (mA s 9 i) := ld_g rfl hi (by decide)
theorem st_9 {s : MS} {i : Nat} {v : Int32} (hi : i < 5) : stA s 11 9 (Int32.ofNat i) v = some (uA s 9 i v) := st_g rfl hi (by decide)
theorem ld_10 {s : MS} {i : Nat} (hi : i < 5) : ldA s 11 10 (Int32.ofNat i) = some (mA s 10 i) := ld_g rfl hi (by decide)
theorem st_10 {s : MS} {i : Nat} {v : Int32} (hi : i < 5) : stA s 11 10 (Int32.ofNat i) v = some (uA s 10 i v) := st_g rfl hi (by decide)
theorem ld_11 {s : MS} {i : Nat} (hi : i < 25) : ldA s 11 11 (Int32.ofNat i) = some (mA s 11 i) := ld_g rfl hi (by decide)
theorem st_11 {s : MS} {i : Nat} {v : Int32} (hi : i < 25) : stA s 11 11 (Int32.ofNat i) v = some (uA s 11 i v) := st_g rfl hi (by decide)
theorem ld_12 {s : MS} {i : Nat} (hi : i < 25) : ldA s 11 12 (Int32.ofNat i) = some (mA s 12 i) := ld_g rfl hi (by decide)
theorem st_12 {s : MS} {i : Nat} {v : Int32} (hi : i < 25) : stA s 11 12 (Int32.ofNat i) v = some (uA s 12 i v) := st_g rfl hi (by decide)
theorem ld_13 {s : MS} {i : Nat} (hi : i < 48040) : ldA s 11 13 (Int32.ofNat i) = some (mA s 13 i) := ld_g rfl hi (by decide)
theorem st_13 {s : MS} {i : Nat} {v : Int32} (hi : i < 48040) : stA s 11 13 (Int32.ofNat i) v = some (uA s 13 i v) := st_g rfl hi (by decide)
theorem ld_14 {s : MS} {i : Nat} (hi : i < 5) : ldA s 11 14 (Int32.ofNat i) = some (mA s 14 i) := ld_g rfl hi (by decide)
theorem st_14 {s : MS} {i : Nat} {v : Int32} (hi : i < 5) : stA s 11 14 (Int32.ofNat i) v = some (uA s 14 i v) := st_g rfl hi (by decide)
theorem ld_15 {s : MS} {i : Nat} (hi : i < 3000) : ldA s 11 15 (Int32.ofNat i) = some (mA s 15 i) := ld_g rfl hi (by decide)
theorem st_15 {s : MS} {i : Nat} {v : Int32} (hi : i < 3000) : stA s 11 15 (Int32.ofNat i) v = some (uA s 15 i v) := st_g rfl hi (by decide)
theorem ld_16 {s : MS} {i : Nat} (hi : i < 3000) : ldA s 11 16 (Int32.ofNat i) = some (mA s 16 i) := ld_g rfl hi (by decide)
theorem st_16 {s : MS} {i : Nat} {v : Int32} (hi : i < 3000) : stA s 11 16 (Int32.ofNat i) v = some (uA s 16 i v) := st_g rfl hi (by decide)
theorem ld_17 {s : MS} {i : Nat} (hi : i < 3000) : ldA s 11 17 (Int32.ofNat i) = some (mA s 17 i) := ld_g rfl hi (by decide)
theorem st_17 {s : MS} {i : Nat} {v : Int32} (hi : i < 3000) : stA s 11 17 (Int32.ofNat i) v = some (uA s 17 i v) := st_g rfl hi (by decide)
theorem ld_18 {s : MS} {i : Nat} (hi : i < 3000) : ldA s 11 18 (Int32.ofNat i) = some (mA s 18 i) := ld_g rfl hi (by decide)
theorem st_18 {s : MS} {i : Nat} {v : Int32} (hi : i < 3000) : stA s 11 18 (Int32.ofNat i) v = some (uA s 18 i v) := st_g rfl hi (by decide)
theorem ld_19 {s : MS} {i : Nat} (hi : i < 3000) : ldA s 11 19 (Int32.ofNat i) = some (mA s 19 i) := ld_g rfl hi (by decide)
theorem st_19 {s : MS} {i : Nat} {v : Int32} (hi : i < 3000) : stA s 11 19 (Int32.ofNat i) v = some (uA s 19 i v) := st_g rfl hi (by decide)
theorem ld_20 {s : MS} {i : Nat} (hi : i < 3000) : ldA s 11 20 (Int32.ofNat i) = some (mA s 20 i) := ld_g rfl hi (by decide)
theorem st_20 {s : MS} {i : Nat} {v : Int32} (hi : i < 3000) : stA s 11 20 (Int32.ofNat i) v = some (uA s 20 i v) := st_g rfl hi (by decide)
theorem ld_21 {s : MS} {i : Nat} (hi : i < 3000) : ldA s 11 21 (Int32.ofNat i) = some (mA s 21 i) := ld_g rfl hi (by decide)
theorem st_21 {s : MS} {i : Nat} {v : Int32} (hi : i < 3000) : stA s 11 21 (Int32.ofNat i) v = some (uA s 21 i v) := st_g rfl hi (by decide)
theorem ld_22 {s : MS} {i : Nat} (hi : i < 3000) : ldA s 11 22 (Int32.ofNat i) = some (mA s 22 i) := ld_g rfl hi (by decide)
theorem st_22 {s : MS} {i : Nat} {v : Int32} (hi : i < 3000) : stA s 11 22 (Int32.ofNat i) v = some (uA s 22 i v) := st_g rfl hi (by decide)
theorem ld_23 {s : MS} {i : Nat} (hi : i < 96000) : ldA s 11 23 (Int32.ofNat i) = some (mA s 23 i) := ld_g rfl hi (by decide)
theorem st_23 {s : MS} {i : Nat} {v : Int32} (hi : i < 96000) : stA s 11 23 (Int32.ofNat i) v = some (uA s 23 i v) := st_g rfl hi (by decide)
theorem ld_24 {s : MS} {i : Nat} (hi : i < 576480) : ldA s 11 24 (Int32.ofNat i) = some (mA s 24 i) := ld_g rfl hi (by decide)
theorem st_24 {s : MS} {i : Nat} {v : Int32} (hi : i < 576480) : stA s 11 24 (Int32.ofNat i) v = some (uA s 24 i v) := st_g rfl hi (by decide)
theorem ld_25 {s : MS} {i : Nat} (hi : i < 3000) : ldA s 11 25 (Int32.ofNat i) = some (mA s 25 i) := ld_g rfl hi (by decide)
theorem st_25 {s : MS} {i : Nat} {v : Int32} (hi : i < 3000) : stA s 11 25 (Int32.ofNat i) v = some (uA s 25 i v) := st_g rfl hi (by decide)
theorem ld_26 {s : MS} {i : Nat} (hi : i < 8) : ldA s 11 26 (Int32.ofNat i) = some (mA s 26 i) := ld_g rfl hi (by decide)
theorem st_26 {s : MS} {i : Nat} {v : Int32} (hi : i < 8) : stA s 11 26 (Int32.ofNat i) v = some (uA s 26 i v) := st_g rfl hi (by decide)
theorem ld_27 {s : MS} {i : Nat} (hi : i < 64) : ldA s 11 27 (Int32.ofNat i) = some (mA s 27 i) := ld_g rfl hi (by decide)
theorem st_27 {s : MS} {i : Nat} {v : Int32} (hi : i < 64) : stA s 11 27 (Int32.ofNat i) v = some (uA s 27 i v) := st_g rfl hi (by decide)
theorem ld_28 {s : MS} {i : Nat} (hi : i < 64) : ldA s 11 28 (Int32.ofNat i) = some (mA s 28 i) := ld_g rfl hi (by decide)
theorem st_28 {s : MS} {i : Nat} {v : Int32} (hi : i < 64) : stA s 11 28 (Int32.ofNat i) v = some (uA s 28 i v) := st_g rfl hi (by decide)
theorem ld_29 {s : MS} {i : Nat} (hi : i < 64) : ldA s 11 29 (Int32.ofNat i) = some (mA s 29 i) := ld_g rfl hi (by decide)
theorem st_29 {s : MS} {i : Nat} {v : Int32} (hi : i < 64) : stA s 11 29 (Int32.ofNat i) v = some (uA s 29 i v) := st_g rfl hi (by decide)
theorem ld_30 {s : MS} {i : Nat} (hi : i < 64) : ldA s 11 30 (Int32.ofNat i) = some (mA s 30 i) := ld_g rfl hi (by decide)
theorem st_30 {s : MS} {i : Nat} {v : Int32} (hi : i < 64) : stA s 11 30 (Int32.ofNat i) v = some (uA s 30 i v) := st_g rfl hi (by decide)
theorem ld_31 {s : MS} {i : Nat} (hi : i < 64) : ldA s 11 31 (Int32.ofNat i) = some (mA s 31 i) := ld_g rfl hi (by decide)
theorem st_31 {s : MS} {i : Nat} {v : Int32} (hi : i < 64) : stA s 11 31 (Int32.ofNat i) v = some (uA s 31 i v) := st_g rfl hi (by decide)
theorem ld_32 {s : MS} {i : Nat} (hi : i < 9) : ldA s 13 32 (Int32.ofNat i) = some (mA s 32 i) := ld_g rfl hi (by decide)
theorem st_32 {s : MS} {i : Nat} {v : Int32} (hi : i < 9) (hv : v = 0 ∨ v = 1) : stB s 13 32 (Int32.ofNat i) v = some (uA s 32 i v) := sb_g rfl hi (by decide) hv
theorem s0_32 {s : MS} {i : Nat} (hi : i < 9) : stB s 13 32 (Int32.ofNat i) (0 : Int32) = some (uA s 32 i 0) := sb_g rfl hi (by decide) (Or.inl rfl)
theorem s1_32 {s : MS} {i : Nat} (hi : i < 9) : stB s 13 32 (Int32.ofNat i) (1 : Int32) = some (uA s 32 i 1) := sb_g rfl hi (by decide) (Or.inr rfl)
theorem ld_33 {s : MS} {i : Nat} (hi : i < 9) : ldA s 11 33 (Int32.ofNat i) = some (mA s 33 i) := ld_g rfl hi (by decide)
theorem st_33 {s : MS} {i : Nat} {v : Int32} (hi : i < 9) : stA s 11 33 (Int32.ofNat i) v = some (uA s 33 i v) := st_g rfl hi (by decide)
theorem ld_34 {s : MS} {i : Nat} (hi : i < 5000) : ldA s 11 34 (Int32.ofNat i) = some (mA s 34 i) := ld_g rfl hi (by decide)
theorem st_34 {s : MS} {i : Nat} {v : Int32} (hi : i < 5000) : stA s 11 34 (Int32.ofNat i) v = some (uA s 34 i v) := st_g rfl hi (by decide)
theorem ld_35 {s : MS} {i : Nat} (hi : i < 5000) : ldA s 11 35 (Int32.ofNat i) = some (mA s 35 i) := ld_g rfl hi (by decide)
theorem st_35 {s : MS} {i : Nat} {v : Int32} (hi : i < 5000) : stA s 11 35 (Int32.ofNat i) v = some (uA s 35 i v) := st_g rfl hi (by decide)
theorem ld_36 {s : MS} {i : Nat} (hi : i < 5000) : ldA s 11 36 (Int32.ofNat i) = some (mA s 36 i) := ld_g rfl hi (by decide)
theorem st_36 {s : MS} {i : Nat} {v : Int32} (hi : i < 5000) : stA s 11 36 (Int32.ofNat i) v = some (uA s 36 i v) := st_g rfl hi (by decide)
theorem ld_37 {s : MS} {i : Nat} (hi : i < 5000) : ldA s 13 37 (Int32.ofNat i) = some (mA s 37 i) := ld_g rfl hi (by decide)
theorem st_37 {s : MS} {i : Nat} {v : Int32} (hi : i < 5000) (hv : v = 0 ∨ v = 1) : stB s 13 37 (Int32.ofNat i) v = some (uA s 37 i v) := sb_g rfl hi (by decide) hv
theorem s0_37 {s : MS} {i : Nat} (hi : i < 5000) : stB s 13 37 (Int32.ofNat i) (0 : Int32) = some (uA s 37 i 0) := sb_g rfl hi (by decide) (Or.inl rfl)
theorem s1_37 {s : MS} {i : Nat} (hi : i < 5000) : stB s 13 37 (Int32.ofNat i) (1 : Int32) = some (uA s 37 i 1) := sb_g rfl hi (by decide) (Or.inr rfl)
theorem ld_38 {s : MS} {i : Nat} (hi : i < 1201) : ldA s 11 38 (Int32.ofNat i) = some (mA s 38 i) := ld_g rfl hi (by decide)
theorem st_38 {s : MS} {i : Nat} {v : Int32} (hi : i < 1201) : stA s 11 38 (Int32.ofNat i) v = some (uA s 38 i v) := st_g rfl hi (by decide)
