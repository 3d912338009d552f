/-! ===== votes are counted ===== -/
def pc5 (V : Nat) : Nat := (V.testBit 0).toNat + (V.testBit 1).toNat + (V.testBit 2).toNat + (V.testBit 3).toNat + (V.testBit 4).toNat
def bcF (x : Int32) : Int32 := ((fJ6_bitCount_0f7a4 x (h00 0)).map Prod.fst).getD 0
theorem bc_eq (x : Int32) (h : Hp) : fJ6_bitCount_0f7a4 x h = some (bcF x, h) := rfl
set_option maxRecDepth 100000 in
theorem bc_pc : ∀ V, V < 32 → bcF (Int32.ofNat V) = Int32.ofNat (pc5 V) := by decide
set_option maxRecDepth 100000 in
theorem bit_g : ∀ V, V < 32 → ∀ j, j < 5 → (Int32.ofNat V >>> (Int32.ofNat j &&& 31)) &&& 1 = Int32.ofNat ((V.testBit j).toNat) := by decide
set_option maxRecDepth 100000 in
theorem bit_or : ∀ V, V < 32 → ∀ m, m < 5 → Int32.ofNat V ||| ((1 : Int32) <<< (Int32.ofNat m &&& 31)) = Int32.ofNat (V ||| 2 ^ m) := by decide
set_option maxRecDepth 100000 in
theorem bit_lt : ∀ V, V < 32 → ∀ m, m < 5 → V ||| 2 ^ m < 32 := by decide
set_option maxRecDepth 100000 in
theorem bit_tb : ∀ V, V < 32 → ∀ m, m < 5 → ∀ w, w < 5 → ((V ||| 2 ^ m).testBit w = true → V.testBit w = true ∨ w = m) := by decide
theorem m3_pc {V : Nat} (h : 3 ≤ pc5 V) : M3 (fun w => V.testBit w = true) := by
  unfold pc5 at h
  cases h0 : V.testBit 0 <;> cases h1 : V.testBit 1 <;> cases h2 : V.testBit 2 <;> cases h3 : V.testBit 3 <;> cases h4 : V.testBit 4 <;> rw [h0, h1, h2, h3, h4] at h <;> first
    | exact absurd h (by decide)
    | exact ⟨0, 1, 2, by decide, by decide, by decide, by decide, by decide, by decide, h0, h1, h2⟩
    | exact ⟨0, 1, 3, by decide, by decide, by decide, by decide, by decide, by decide, h0, h1, h3⟩
    | exact ⟨0, 1, 4, by decide, by decide, by decide, by decide, by decide, by decide, h0, h1, h4⟩
    | exact ⟨0, 2, 3, by decide, by decide, by decide, by decide, by decide, by decide, h0, h2, h3⟩
    | exact ⟨0, 2, 4, by decide, by decide, by decide, by decide, by decide, by decide, h0, h2, h4⟩
    | exact ⟨0, 3, 4, by decide, by decide, by decide, by decide, by decide, by decide, h0, h3, h4⟩
    | exact ⟨1, 2, 3, by decide, by decide, by decide, by decide, by decide, by decide, h1, h2, h3⟩
    | exact ⟨1, 2, 4, by decide, by decide, by decide, by decide, by decide, by decide, h1, h2, h4⟩
    | exact ⟨1, 3, 4, by decide, by decide, by decide, by decide, by decide, by decide, h1, h3, h4⟩
    | exact ⟨2, 3, 4, by decide, by decide, by decide, by decide, by decide, by decide, h2, h3, h4⟩
theorem b2n (b : Bool) : b.toNat ≤ 1 := by cases b <;> decide
theorem pc_le (V : Nat) : pc5 V ≤ 5 := by
  unfold pc5
  have := b2n (V.testBit 0); have := b2n (V.testBit 1); have := b2n (V.testBit 2); have := b2n (V.testBit 3); have := b2n (V.testBit 4)
  omega
theorem g_c17 {s : MS} {n V f c j : Nat} (hn : n < 5) (hV : mA s 9 n = Int32.ofNat V) (hV' : V < 32) (hj : j < 5) : gX10_counts_17 (f + 1) (Int32.ofNat n) (Int32.ofNat c) (Int32.ofNat j) s = gX10_counts_17 f (Int32.ofNat n) (Int32.ofNat (c + (V.testBit j).toNat)) (Int32.ofNat (j + 1)) s := by
  have e : gX10_counts_17 (f + 1) (Int32.ofNat n) (Int32.ofNat c) (Int32.ofNat j) s = gX10_counts_17_body (gX10_counts_17 f) (Int32.ofNat n) (Int32.ofNat c) (Int32.ofNat j) s := rfl
  rw [e]
  unfold gX10_counts_17_body
  rw [if_neg (i5_le hj), ld_9 hn, bd_some, hV, bit_g V hV' j hj, io_ad, io_a1]
theorem g_counts {s : MS} {n m V : Nat} (hn : n < 5) (hm : m < 5) (hV : mA s 9 n = Int32.ofNat V) (hV' : V < 32) : gX10_counts (Int32.ofNat n) (Int32.ofNat m) s = if pc5 (V ||| 2 ^ m) < 3 then some ((), uA s 9 n (Int32.ofNat (V ||| 2 ^ m))) else gX10_counts_59 LF (Int32.ofNat n) (Int32.ofNat 0) (uA (uA s 9 n (Int32.ofNat (V ||| 2 ^ m))) 8 n 2) := by
  unfold gX10_counts
  rw [ld_9 hn, bd_some, hV, bit_or V hV' m hm, st_9 hn, bd_some]
  have v9 : mA (uA s 9 n (Int32.ofNat (V ||| 2 ^ m))) 9 n = Int32.ofNat (V ||| 2 ^ m) := mA_h _ _ _ _
  have vl := bit_lt V hV' m hm
  have e : LF = 999994 + 1 + 1 + 1 + 1 + 1 + 1 := rfl
  have e2 : gX10_counts_17 LF (Int32.ofNat n) 0 0 (uA s 9 n (Int32.ofNat (V ||| 2 ^ m))) = gX10_counts_17 (999994 + 1 + 1 + 1 + 1 + 1 + 1) (Int32.ofNat n) (Int32.ofNat 0) (Int32.ofNat 0) (uA s 9 n (Int32.ofNat (V ||| 2 ^ m))) := by rw [← e]; rfl
  rw [e2, g_c17 hn v9 vl (by decide), g_c17 hn v9 vl (by decide), g_c17 hn v9 vl (by decide), g_c17 hn v9 vl (by decide), g_c17 hn v9 vl (by decide)]
  have pl := pc_le (V ||| 2 ^ m)
  have e3 : 0 + ((V ||| 2 ^ m).testBit 0).toNat + ((V ||| 2 ^ m).testBit (0 + 1)).toNat + ((V ||| 2 ^ m).testBit (0 + 1 + 1)).toNat + ((V ||| 2 ^ m).testBit (0 + 1 + 1 + 1)).toNat + ((V ||| 2 ^ m).testBit (0 + 1 + 1 + 1 + 1)).toNat = pc5 (V ||| 2 ^ m) := by
    unfold pc5; rw [Nat.zero_add]
  rw [e3]
  show gX10_counts_17_body _ _ _ _ _ = _
  unfold gX10_counts_17_body
  rw [if_pos (by decide)]
  by_cases z : pc5 (V ||| 2 ^ m) < 3
  · rw [if_pos z, if_neg (by rw [show (3 : Int32) = Int32.ofNat 3 from rfl, io_le (by omega) (by omega)]; omega)]
  · rw [if_neg z, if_pos (by rw [show (3 : Int32) = Int32.ofNat 3 from rfl, io_le (by omega) (by omega)]; omega), st_8 hn, bd_some]
    rfl
/-- the fresh row -/
def oF (t k a b x y z w : Int32) (s : MS) : MS := uA (uA (uA (uA (uA (uA (uA (uA s 26 0 t) 26 1 k) 26 2 a) 26 3 b) 26 4 x) 26 5 y) 26 6 z) 26 7 w
def ro8 (t k a b x y z w : Int32) : Nat → Int32 := fun j => if j = 0 then t else if j = 1 then k else if j = 2 then a else if j = 3 then b else if j = 4 then x else if j = 5 then y else if j = 6 then z else if j = 7 then w else 0
theorem mA_oFx {t k a b x y z w : Int32} (s : MS) {c : Nat} (i : Nat) (h : c ≠ 26) : mA (oF t k a b x y z w s) c i = mA s c i := by
  unfold oF; rw [mA_k _ _ _ _ h, mA_k _ _ _ _ h, mA_k _ _ _ _ h, mA_k _ _ _ _ h, mA_k _ _ _ _ h, mA_k _ _ _ _ h, mA_k _ _ _ _ h, mA_k _ _ _ _ h]
theorem mA_oF {t k a b x y z w : Int32} (s : MS) {j : Nat} (h : j < 8) : mA (oF t k a b x y z w s) 26 j = ro8 t k a b x y z w j := by
  have : j = 0 ∨ j = 1 ∨ j = 2 ∨ j = 3 ∨ j = 4 ∨ j = 5 ∨ j = 6 ∨ j = 7 := by omega
  rcases this with e | e | e | e | e | e | e | e <;> subst e <;> simp [oF, ro8, mA_uA]
theorem oE_ext {n idx : Nat} {r r' : Nat → Int32} {s : MS} (h : ∀ j, j < 8 → r j = r' j) : oE n idx r s = oE n idx r' s := ms_ext (fun x i => by
  rw [mA_oE, mA_oE]
  by_cases z : x = 13 ∧ (n * 1201 + idx) * 8 ≤ i ∧ i < (n * 1201 + idx) * 8 + 8
  · rw [if_pos z, if_pos z, h _ (by omega)]
  · rw [if_neg z, if_neg z]) (fun _ => rfl)
theorem g_adds {s : MS} {n l : Nat} {k a b x y z w : Int32} (hn : n < 5) (hl : mA s 5 n = Int32.ofNat l) (h12 : l + 1 ≤ 1200) : gX10_adds (Int32.ofNat n) k a b x y z w s = if mA s 10 n = 0 then some (0, oD n (oF (mA s 2 n) k a b x y z w s)) else some (1, oE n (l + 1) (ro8 (mA s 2 n) k a b x y z w) (oP n (oF (mA s 2 n) k a b x y z w s))) := by
  unfold gX10_adds
  rw [ld_2 hn, bd_some, show (0 : Int32) = Int32.ofNat 0 from rfl, st_26 (by decide), bd_some, show (1 : Int32) = Int32.ofNat 1 from rfl, st_26 (by decide), bd_some, show (2 : Int32) = Int32.ofNat 2 from rfl, st_26 (by decide), bd_some, show (3 : Int32) = Int32.ofNat 3 from rfl, st_26 (by decide), bd_some, show (4 : Int32) = Int32.ofNat 4 from rfl, st_26 (by decide), bd_some, show (5 : Int32) = Int32.ofNat 5 from rfl, st_26 (by decide), bd_some, show (6 : Int32) = Int32.ofNat 6 from rfl, st_26 (by decide), bd_some, show (7 : Int32) = Int32.ofNat 7 from rfl, st_26 (by decide), bd_some, ld_5 hn, bd_some]
  show bdm (gX10_comes (Int32.ofNat n) (mA (oF (mA s 2 n) k a b x y z w s) 5 n + Int32.ofNat 1) 26 (Int32.ofNat 0) (oF (mA s 2 n) k a b x y z w s)) _ = _
  rw [mA_oFx _ _ (by decide), hl, io_ad, g_comes hn h12 (Or.inl ⟨rfl, rfl⟩), mA_oFx _ _ (by decide)]
  by_cases e : mA s 10 n = 0
  · rw [if_pos e, if_pos (show mA s 10 n = Int32.ofNat 0 from e), bdm_some, if_pos (show (0 : Int32) = Int32.ofNat 0 ∨ (0 : Int32) = Int32.ofNat 1 from Or.inl rfl)]; rfl
  · rw [if_neg e, if_neg (show ¬ mA s 10 n = Int32.ofNat 0 from e), bdm_some, if_pos (show (1 : Int32) = Int32.ofNat 0 ∨ (1 : Int32) = Int32.ofNat 1 from Or.inr rfl)]
    have : oE n (l + 1) (fun j => mA (oP n (oF (mA s 2 n) k a b x y z w s)) 26 (0 + j)) (oP n (oF (mA s 2 n) k a b x y z w s)) = oE n (l + 1) (ro8 (mA s 2 n) k a b x y z w) (oP n (oF (mA s 2 n) k a b x y z w s)) := oE_ext (fun j hj => by rw [Nat.zero_add, mA_oP _ _ _ (by decide), mA_oF s hj])
    rw [this]; rfl
theorem ex_oF {n : Nat} {t k a b x y z w : Int32} {s : MS} : EX n s (oF t k a b x y z w s) := ⟨fun c i h => mA_oFx _ _ (by omega), fun _ _ _ => rfl, fun v _ => ⟨mA_oFx _ _ (by decide), mA_oFx _ _ (by decide)⟩⟩
theorem rx_oF {X M : Nat} {h : Hp} {s : MS} {g : GH} {K : Nat} {t k a b x y z w : Int32} (r : RX X M h s g K) : RX X M h (oF t k a b x y z w s) g K := rx_frame r (fun c i h1 h2 h3 => mA_oFx _ _ (by omega)) (fun _ _ => rfl)
theorem mi_oF {s : MS} {g : GH} {B K W : Nat} {t k a b x y z w : Int32} (r : MI s g B K W) : MI (oF t k a b x y z w s) g B K W := mi_frame r (fun c i h1 h2 h3 h4 => mA_oFx _ _ (by omega)) rfl rfl
/-- both lengthen the log of n -/
theorem j_len {X M : Nat} {h : Hp} {s : MS} {g : GH} {K n c : Nat} {k a b x y z v : Int32} (w : RX X M h s g K) (hn : n < 5) (h5 : mA s 5 n = Int32.ofNat (lsM s n)) (hl : lsM s n + 1 ≤ 1200) (ic : IM X M h c) (kc : hK h c = some (0, 0)) (ec : ∀ j, j < 7 → hI h (gq 0 j) c = ro8 (mA s 2 n) k a b x y z v (j + 1)) : ∃ h', fX5_lengthenLog (ndA X n) c h = some (if mA s 10 n = 0 then 0 else 1, h') ∧ gX10_adds (Int32.ofNat n) k a b x y z v s = some (if mA s 10 n = 0 then 0 else 1, if mA s 10 n = 0 then oD n (oF (mA s 2 n) k a b x y z v s) else oE n (lsM s n + 1) (ro8 (mA s 2 n) k a b x y z v) (oP n (oF (mA s 2 n) k a b x y z v s))) ∧ CC X n h h' ∧ RX X M h' (if mA s 10 n = 0 then oD n (oF (mA s 2 n) k a b x y z v s) else oE n (lsM s n + 1) (ro8 (mA s 2 n) k a b x y z v) (oP n (oF (mA s 2 n) k a b x y z v s))) g K := by
  have wf := rx_oF (t := mA s 2 n) (k := k) (a := a) (b := b) (x := x) (y := y) (z := z) (w := v) w
  have el : lsM (oF (mA s 2 n) k a b x y z v s) n = lsM s n := by unfold lsM; rw [mA_oFx _ _ (by decide)]
  obtain ⟨h', e1, e2, e3⟩ := c_lengthen (e := ro8 (mA s 2 n) k a b x y z v) wf hn (by rw [el]; exact hl) (by rw [el, mA_oFx _ _ (by decide)]; exact h5) ic kc ec (by rw [mA_oFx _ _ (by decide)]; rfl)
  rw [mA_oFx _ _ (by decide)] at e1 e3
  rw [el] at e3
  refine ⟨h', e1, ?_, e2, e3⟩
  rw [g_adds hn h5 hl]
  by_cases e : mA s 10 n = 0
  · rw [if_pos e, if_pos e, if_pos e]
  · rw [if_neg e, if_neg e, if_neg e]
/-- the entry of the leader comes to the same, whatever stands in the fresh row -/
theorem mi_oEf {s : MS} {g : GH} {B K W n idx : Nat} {r : Nat → Int32} {t k a b x y z w : Int32} (m : MI (oE n idx r s) g B K W) : MI (oE n idx r (oP n (oF t k a b x y z w s))) g B K W := mi_frame m (fun c i h1 h2 h3 h4 => by
  rw [mA_oE, mA_oE]
  split
  · rfl
  · split
    · rfl
    · rw [mA_oP _ _ _ h2, mA_oFx _ _ (by omega)]) (by rw [mF_oE, mF_oE, mF_oP]; rfl) (by rw [mF_oE, mF_oE, mF_oP]; rfl)
theorem mi_oDf {s : MS} {g : GH} {B K W n : Nat} {t k a b x y z w : Int32} (m : MI (oD n s) g B K W) : MI (oD n (oF t k a b x y z w s)) g B K W := mi_frame m (fun c i h1 h2 h3 h4 => by
  unfold oD
  rw [mA_uA, mA_uA, mA_uA, mA_uA, mA_uA, mA_uA, mA_oFx _ _ (by omega)]) rfl rfl
