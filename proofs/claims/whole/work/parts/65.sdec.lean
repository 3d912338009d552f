/-! ===== events as numbers ===== -/
theorem il_mx : Int32.maxValue.toInt = 2147483647 := by decide
theorem il_ofN {r : Nat} (h : r < 2147483648) : (Int32.ofNat r).toInt64 = Int64.ofNat r := Int32.toInt64_ofNat' (by rw [il_mx]; omega)
theorem il_bv (m : Nat) : (Int64.ofNat m).toBitVec = BitVec.ofNat 64 m := rfl
theorem il_sl {m s : Nat} {c : Int64} (hc : c.toBitVec.smod 64 = BitVec.ofNat 64 s) (hs : s < 64) : Int64.ofNat m <<< c = Int64.ofNat (m * 2 ^ s) := by
  rw [← Int64.toBitVec_inj, Int64.toBitVec_shiftLeft, hc, il_bv, il_bv]
  apply BitVec.eq_of_toNat_eq
  rw [BitVec.shiftLeft_eq', BitVec.toNat_shiftLeft, BitVec.toNat_ofNat, BitVec.toNat_ofNat, BitVec.toNat_ofNat, Nat.mod_eq_of_lt (show s < 2 ^ 64 by omega), Nat.shiftLeft_eq, Nat.mod_mul_mod]
theorem il_sr {m s : Nat} {c : Int64} (hc : c.toBitVec.smod 64 = BitVec.ofNat 64 s) (hs : s < 64) (hm : m < 2 ^ 63) : Int64.ofNat m >>> c = Int64.ofNat (m / 2 ^ s) := by
  rw [← Int64.toBitVec_inj, Int64.toBitVec_shiftRight, hc, il_bv, il_bv]
  apply BitVec.eq_of_toNat_eq
  have msb : (BitVec.ofNat 64 m).msb = false := by
    rw [BitVec.msb_eq_false_iff_two_mul_lt, BitVec.toNat_ofNat, Nat.mod_eq_of_lt (show m < 2 ^ 64 by omega)]; omega
  have hd : m / 2 ^ s ≤ m := Nat.div_le_self _ _
  rw [BitVec.toNat_sshiftRight'_of_msb_false msb, BitVec.toNat_ofNat, BitVec.toNat_ofNat, BitVec.toNat_ofNat, Nat.mod_eq_of_lt (show s < 2 ^ 64 by omega), Nat.mod_eq_of_lt (show m < 2 ^ 64 by omega), Nat.shiftRight_eq_div_pow, Nat.mod_eq_of_lt (show m / 2 ^ s < 2 ^ 64 by omega)]
theorem il_and {m : Nat} : Int64.ofNat m &&& (63 : Int64) = Int64.ofNat (m % 64) := by
  rw [← Int64.toBitVec_inj, Int64.toBitVec_and, il_bv, il_bv]
  apply BitVec.eq_of_toNat_eq
  have e : (63 : Int64).toBitVec.toNat = 2 ^ 6 - 1 := by decide
  rw [BitVec.toNat_and, e, BitVec.toNat_ofNat, BitVec.toNat_ofNat, Nat.and_two_pow_sub_one_eq_mod]
  omega
theorem il_mask (v : Int32) : v.toInt64 &&& (4294967295 : Int64) = Int64.ofNat v.toBitVec.toNat := by
  rw [← Int64.toBitVec_inj, Int64.toBitVec_and, il_bv, Int32.toBitVec_toInt64]
  apply BitVec.eq_of_toNat_eq
  have e : (4294967295 : Int64).toBitVec.toNat = 2 ^ 32 - 1 := by decide
  have hv : v.toBitVec.toNat < 2 ^ 32 := v.toBitVec.isLt
  rw [BitVec.toNat_and, e, BitVec.toNat_ofNat, Nat.and_two_pow_sub_one_eq_mod, BitVec.toNat_signExtend, BitVec.toNat_setWidth, Nat.mod_eq_of_lt (show v.toBitVec.toNat < 2 ^ 64 by omega)]
  split <;> omega
theorem il_low (q : Nat) (v : Int32) : Int32.ofNat (q * 2 ^ 32 + v.toBitVec.toNat) = v := by
  rw [← Int32.toBitVec_inj]
  show BitVec.ofNat 32 _ = _
  apply BitVec.eq_of_toNat_eq
  have hv : v.toBitVec.toNat < 2 ^ 32 := v.toBitVec.isLt
  rw [BitVec.toNat_ofNat]
  omega
theorem il_neg (x : Int64) : (-1 : Int64) - ((-1 : Int64) - x) = x := by
  rw [Int64.sub_eq_add_neg, Int64.neg_sub, Int64.sub_eq_add_neg, ← Int64.add_assoc, Int64.add_comm (-1) x, Int64.add_assoc]
  rw [show (-1 : Int64) + - -1 = 0 from by decide, Int64.add_zero]
theorem il_ge {m : Nat} (h : m < 2 ^ 63) : ¬ Int64.ofNat m < 0 := by
  rw [Int64.lt_iff_toInt_lt, Int64.toInt_ofNat_of_lt h]
  show ¬ (m : Int) < 0
  omega
theorem il_lt {q : Nat} (h : q < 2 ^ 62) : (-1 : Int64) - Int64.ofNat q < 0 := by
  have e : (-1 : Int64) - Int64.ofNat q = Int64.ofInt (-1 - (q : Int)) := by
    rw [Int64.ofInt_sub]; rfl
  rw [e, Int64.lt_iff_toInt_lt, Int64.toInt_ofInt_of_le (by omega) (by omega)]
  show (-1 - (q : Int)) < 0
  omega
/-- a good event -/
def EvOK (p : MS) (i : Nat) : Prop := ∃ r k, mA p 34 i = Int32.ofNat r ∧ r < 100000 ∧ mA p 35 i = Int32.ofNat k ∧ k < 64 ∧ (mA p 37 i = 1 ∨ (mA p 37 i = 0 ∧ mA p 36 i = 0))
theorem pi_ev {p : MS} {N i : Nat} (h : PI p N) (hN : N < 10000) (hi : i < nE p) : EvOK p i := by
  obtain ⟨⟨R, C, a1, a2, a3, a4, a5⟩, b1, _⟩ := h
  obtain ⟨r, r1, r2⟩ := a5.2.2.1 i hi
  obtain ⟨⟨k, k1, k2⟩, k3⟩ := a5.2.2.2.1 i hi
  have := a5.2.1
  exact ⟨r, k, r1, by omega, k2, k1, k3⟩
theorem cd_put {p : MS} {i r k : Nat} (h1 : mA p 34 i = Int32.ofNat r) (hr : r < 100000) (h2 : mA p 35 i = Int32.ofNat k) (hk : k < 64) (h3 : mA p 37 i = 1) : coded p i = Int64.ofNat (r * 2 ^ 38 + k * 2 ^ 32 + (mA p 36 i).toBitVec.toNat) := by
  unfold coded
  rw [h3, if_neg (by decide), h1, h2, il_ofN (by omega), il_ofN (by omega), il_sl (s := 38) (by decide) (by decide), il_sl (s := 32) (by decide) (by decide), il_mask, ← Int64.ofNat_add, ← Int64.ofNat_add]
theorem cd_rem {p : MS} {i r k : Nat} (h1 : mA p 34 i = Int32.ofNat r) (hr : r < 100000) (h2 : mA p 35 i = Int32.ofNat k) (hk : k < 64) (h3 : mA p 37 i = 0) : coded p i = (-1 : Int64) - Int64.ofNat (64 * r + k) := by
  unfold coded
  rw [h3, if_pos rfl, h1, h2, il_ofN (by omega), il_ofN (by omega), Int64.ofNat_add, Int64.ofNat_mul]
  rfl
theorem d7_put {p : MS} {i : Nat} {t : SS} (h : EvOK p i) : gX7_isPut (coded p i) t = some (if mA p 37 i = 0 then 0 else 1, t) := by
  obtain ⟨r, k, h1, hr, h2, hk, h3⟩ := h
  unfold gX7_isPut
  rcases h3 with z | ⟨z, z'⟩
  · have hv : (mA p 36 i).toBitVec.toNat < 2 ^ 32 := (mA p 36 i).toBitVec.isLt
    rw [cd_put h1 hr h2 hk z, if_neg (by rw [lg_cmp_lt]; exact il_ge (by omega)), z, if_neg (by decide)]
  · rw [cd_rem h1 hr h2 hk z, if_pos (by rw [lg_cmp_lt]; exact il_lt (by omega)), z, if_pos rfl]
theorem d7_rev {p : MS} {i : Nat} {t : SS} (h : EvOK p i) : gX7_revisionOf (coded p i) t = some (mA p 34 i, t) := by
  have dp := d7_put (t := t) h
  obtain ⟨r, k, h1, hr, h2, hk, h3⟩ := h
  unfold gX7_revisionOf
  rw [dp, bd7_some]
  rcases h3 with z | ⟨z, z'⟩
  · have hv : (mA p 36 i).toBitVec.toNat < 2 ^ 32 := (mA p 36 i).toBitVec.isLt
    rw [z, if_neg (show ¬ (1 : Int32) = 0 by decide), if_neg (by decide), cd_put h1 hr h2 hk z, il_sr (s := 38) (by decide) (by decide) (by omega), Int64.toInt32_ofNat', h1]
    congr 3; omega
  · rw [z, if_pos rfl, if_pos rfl, cd_rem h1 hr h2 hk z, il_neg, il_sr (s := 6) (by decide) (by decide) (by omega), Int64.toInt32_ofNat', h1]
    congr 3; omega
theorem d7_key {p : MS} {i : Nat} {t : SS} (h : EvOK p i) : gX7_keyOf (coded p i) t = some (mA p 35 i, t) := by
  have dp := d7_put (t := t) h
  obtain ⟨r, k, h1, hr, h2, hk, h3⟩ := h
  unfold gX7_keyOf
  rw [dp, bd7_some]
  rcases h3 with z | ⟨z, z'⟩
  · have hv : (mA p 36 i).toBitVec.toNat < 2 ^ 32 := (mA p 36 i).toBitVec.isLt
    rw [z, if_neg (show ¬ (1 : Int32) = 0 by decide), if_neg (by decide), cd_put h1 hr h2 hk z, il_sr (s := 32) (by decide) (by decide) (by omega), il_and, Int64.toInt32_ofNat', h2]
    congr 3; omega
  · rw [z, if_pos rfl, if_pos rfl, cd_rem h1 hr h2 hk z, il_neg, il_and, Int64.toInt32_ofNat', h2]
    congr 3; omega
theorem d7_val {p : MS} {i : Nat} {t : SS} (h : EvOK p i) : gX7_valueOf (coded p i) t = some (mA p 36 i, t) := by
  have dp := d7_put (t := t) h
  obtain ⟨r, k, h1, hr, h2, hk, h3⟩ := h
  unfold gX7_valueOf
  rw [dp, bd7_some]
  rcases h3 with z | ⟨z, z'⟩
  · rw [z, if_neg (show ¬ (1 : Int32) = 0 by decide), if_neg (by decide), cd_put h1 hr h2 hk z, Int64.toInt32_ofNat', show r * 2 ^ 38 + k * 2 ^ 32 + (mA p 36 i).toBitVec.toNat = (r * 64 + k) * 2 ^ 32 + (mA p 36 i).toBitVec.toNat by omega, il_low]
  · rw [z, if_pos rfl, if_pos rfl, z']
