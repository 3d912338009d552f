/-! ===== node ===== -/
theorem l_1413 {y : Int32} : y < (14 : Int32) ↔ y ≤ (13 : Int32) := by
  rw [Int32.lt_iff_toInt_lt, Int32.le_iff_toInt_le, show (14 : Int32).toInt = 14 from rfl, show (13 : Int32).toInt = 13 from rfl]
  omega
/-- how many keys are there, from i on -/
def kcN (p : MS) : Nat → Nat → Nat → Nat
  | 0, _, c => c
  | d + 1, i, c => if mA p 27 i = 0 then kcN p d (i + 1) c else kcN p d (i + 1) (c + 1)
theorem i64_le {i : Nat} (h : i < 64) : ¬ (64 : Int32) ≤ Int32.ofNat i := by
  rw [show (64 : Int32) = Int32.ofNat 64 from rfl, io_le (by omega) (by omega)]; omega
theorem c7_kt {t : SS} {p : MS} (c : SC t p) : ∀ (d i f k : Nat), i + d = 64 → d < f → gX7_keysThere_4 f (Int32.ofNat k) (Int32.ofNat i) t = some (Int32.ofNat (kcN p d i k), t) := by
  intro d
  induction d with
  | zero =>
    intro i f k h0 hf
    obtain ⟨f, rfl⟩ : ∃ g, f = g + 1 := ⟨f - 1, by omega⟩
    have e : i = 64 := by omega
    subst e
    have e0 : gX7_keysThere_4 (f + 1) (Int32.ofNat k) (Int32.ofNat 64) t = gX7_keysThere_4_body (gX7_keysThere_4 f) (Int32.ofNat k) (Int32.ofNat 64) t := rfl
    rw [e0]
    unfold gX7_keysThere_4_body
    rw [if_pos (show (64 : Int32) ≤ Int32.ofNat 64 from Int32.le_refl _)]
    rfl
  | succ d ih =>
    intro i f k h0 hf
    obtain ⟨f, rfl⟩ : ∃ g, f = g + 1 := ⟨f - 1, by omega⟩
    have e0 : gX7_keysThere_4 (f + 1) (Int32.ofNat k) (Int32.ofNat i) t = gX7_keysThere_4_body (gX7_keysThere_4 f) (Int32.ofNat k) (Int32.ofNat i) t := rfl
    have v1 := (c.2.2.2.2.1 i (by omega)).1
    rw [e0]
    unfold gX7_keysThere_4_body gX7_keysThere_22
    rw [if_neg (i64_le (by omega)), l7_2 (by omega), bd_some, v1]
    show _ = some (Int32.ofNat (if mA p 27 i = 0 then kcN p d (i + 1) k else kcN p d (i + 1) (k + 1)), t)
    by_cases z : mA p 27 i = 0
    · rw [if_pos z, if_pos z, io_a1]; exact ih (i + 1) f k (by omega) (by omega)
    · rw [if_neg z, if_neg z, io_a1, io_a1]; exact ih (i + 1) f (k + 1) (by omega) (by omega)
theorem g_kt {s p : MS} {N : Nat} (a : SM s p) (pi : PI p N) (hN : N < 10000) : ∀ (d i f k : Nat), i + d = 64 → d < f → gX10_node_250 f (Int32.ofNat k) (Int32.ofNat i) s = some (Int32.ofNat (kcN p d i k), s) := by
  intro d
  induction d with
  | zero =>
    intro i f k h0 hf
    obtain ⟨f, rfl⟩ : ∃ g, f = g + 1 := ⟨f - 1, by omega⟩
    have e : i = 64 := by omega
    subst e
    have e0 : gX10_node_250 (f + 1) (Int32.ofNat k) (Int32.ofNat 64) s = gX10_node_250_body (gX10_node_250 f) (Int32.ofNat k) (Int32.ofNat 64) s := rfl
    rw [e0]
    unfold gX10_node_250_body
    rw [if_pos (show (64 : Int32) ≤ Int32.ofNat 64 from Int32.le_refl _)]
    rfl
  | succ d ih =>
    intro i f k h0 hf
    obtain ⟨f, rfl⟩ : ∃ g, f = g + 1 := ⟨f - 1, by omega⟩
    have e0 : gX10_node_250 (f + 1) (Int32.ofNat k) (Int32.ofNat i) s = gX10_node_250_body (gX10_node_250 f) (Int32.ofNat k) (Int32.ofNat i) s := rfl
    have v1 := (a.2.2.2.2.1 i (by omega)).1
    obtain ⟨v, q1, q2⟩ := pi.2.2.1 i (by omega)
    rw [e0]
    unfold gX10_node_250_body gX10_node_270
    rw [if_neg (i64_le (by omega)), ld_27 (by omega), bd_some, v1]
    show _ = some (Int32.ofNat (if mA p 27 i = 0 then kcN p d (i + 1) k else kcN p d (i + 1) (k + 1)), s)
    by_cases z : v = 0
    · rw [q1, z, if_pos (show Int32.ofNat 0 ≤ (0 : Int32) from Int32.le_refl _), if_pos (show Int32.ofNat 0 = (0 : Int32) from rfl), io_a1]; exact ih (i + 1) f k (by omega) (by omega)
    · rw [q1, if_neg (show ¬ Int32.ofNat v ≤ (0 : Int32) by rw [show (0 : Int32) = Int32.ofNat 0 from rfl, io_le (by omega) (by omega)]; omega), if_neg (show ¬ Int32.ofNat v = (0 : Int32) by rw [show (0 : Int32) = Int32.ofNat 0 from rfl, io_eq (by omega) (by omega)]; omega), io_a1, io_a1]; exact ih (i + 1) f (k + 1) (by omega) (by omega)
set_option maxRecDepth 100000 in
theorem bt_mod : ∀ V, V < 256 → ∀ l, l < 8 → V % 2 ^ (l + 1) = if V.testBit l = true then (V % 2 ^ l) ||| 2 ^ l else V % 2 ^ l := by decide +kernel
/-- the bits of the leases, as the reference sums them -/
theorem g_lb {s p : MS} {V : Nat} (a : SM s p) (b : ∀ j, mA p 32 j = 0 ∨ mA p 32 j = 1) (hV : V < 256) (hb : ∀ l, l < 8 → (V.testBit l = true ↔ mA p 32 (l + 1) = 1)) : ∀ (d l f : Nat), l + d = 8 → d < f → gX10_node_281 f (Int32.ofNat (V % 2 ^ l)) (Int32.ofNat (l + 1)) s = some (Int32.ofNat V, s) := by
  intro d
  induction d with
  | zero =>
    intro l f h0 hf
    obtain ⟨f, rfl⟩ : ∃ g, f = g + 1 := ⟨f - 1, by omega⟩
    have e : l = 8 := by omega
    subst e
    have e0 : gX10_node_281 (f + 1) (Int32.ofNat (V % 2 ^ 8)) (Int32.ofNat (8 + 1)) s = gX10_node_281_body (gX10_node_281 f) (Int32.ofNat (V % 2 ^ 8)) (Int32.ofNat (8 + 1)) s := rfl
    rw [e0]
    unfold gX10_node_281_body
    rw [if_pos (show (8 : Int32) < Int32.ofNat (8 + 1) by decide), Nat.mod_eq_of_lt hV]
  | succ d ih =>
    intro l f h0 hf
    obtain ⟨f, rfl⟩ : ∃ g, f = g + 1 := ⟨f - 1, by omega⟩
    have e0 : gX10_node_281 (f + 1) (Int32.ofNat (V % 2 ^ l)) (Int32.ofNat (l + 1)) s = gX10_node_281_body (gX10_node_281 f) (Int32.ofNat (V % 2 ^ l)) (Int32.ofNat (l + 1)) s := rfl
    have v1 := a.2.2.2.2.2.1 (l + 1) (by omega)
    have r := ih (l + 1) f (by omega) (by omega)
    rw [bt_mod V hV l (by omega)] at r
    rw [e0]
    unfold gX10_node_281_body gX10_node_307
    rw [if_neg (show ¬ (8 : Int32) < Int32.ofNat (l + 1) by rw [show (8 : Int32) = Int32.ofNat 8 from rfl, io_lt (by omega) (by omega)]; omega), ld_32 (by omega), bd_some, v1]
    have ml : V % 2 ^ l < 256 := Nat.lt_of_le_of_lt (Nat.mod_le _ _) hV
    by_cases z : mA p 32 (l + 1) = 0
    · rw [if_pos z, io_a1]
      rw [if_neg (fun q => by have := (hb l (by omega)).mp q; rw [z] at this; exact absurd this (by decide))] at r
      exact r
    · rw [if_neg z, io_a1, io_s1 (by omega), Nat.add_sub_cancel, bt_set _ ml l (by omega)]
      rw [if_pos ((hb l (by omega)).mpr ((b _).resolve_left z))] at r
      exact r
/-- what node tells of the store -/
def ndS (p : MS) (V i : Nat) : Int32 := if i = 8 then mF p 40 else if i = 9 then mF p 41 else if i = 10 then mF p 42 else if i = 11 then Int32.ofNat (kcN p 64 0 0) else if i = 12 then Int32.ofNat V else Int32.ofNat (nE p - fV p)
theorem c7_fld {t : SS} {p : MS} {V i : Nat} (c : SC t p) (hV : tF t 12 = Int32.ofNat V) (h8 : 8 ≤ i) (h13 : i ≤ 13) : gX7_field (Int32.ofNat i) t = some (ndS p V i, t) := by
  obtain ⟨c0, c1, c2, c3, c4, c5, c6, ⟨c7, _⟩, _⟩ := id c
  have : i = 8 ∨ i = 9 ∨ i = 10 ∨ i = 11 ∨ i = 12 ∨ i = 13 := by omega
  unfold gX7_field ndS rd7
  rcases this with e | e | e | e | e | e <;> subst e
  · rw [if_pos (by decide), if_pos (by decide), bd_some, c1]
  · rw [if_neg (by decide), if_pos (by decide), if_neg (by decide), if_pos (by decide), bd_some, c3]
  · rw [if_neg (by decide), if_neg (by decide), if_pos (by decide), if_neg (by decide), if_neg (by decide), if_pos (by decide), bd_some, c2]
  · rw [if_neg (by decide), if_neg (by decide), if_neg (by decide), if_pos (by decide), if_neg (by decide), if_neg (by decide), if_neg (by decide), if_pos (by decide)]
    unfold gX7_keysThere
    rw [show (0 : Int32) = Int32.ofNat 0 from rfl, c7_kt c 64 0 LF 0 rfl (LF_lt (by decide)), bd7_some]
  · rw [if_neg (by decide), if_neg (by decide), if_neg (by decide), if_neg (by decide), if_pos (by decide), if_neg (by decide), if_neg (by decide), if_neg (by decide), if_neg (by decide), if_pos (by decide), bd_some, hV]
  · rw [if_neg (by decide), if_neg (by decide), if_neg (by decide), if_neg (by decide), if_neg (by decide), if_neg (by decide), if_neg (by decide), if_neg (by decide), if_neg (by decide), if_neg (by decide), bd_some, c7]
section
variable {X M j : Nat} {h : Hp} {s : MS} {g : GH} {B K W n : Nat}
/-- what node tells of the node -/
def ndN (s : MS) (n i : Nat) : Int32 := if i = 0 then (if mA s 1 n = 0 then 0 else 1) else if i = 1 then mA s 2 n else if i = 2 then mA s 3 n else if i = 3 then mA s 8 n else if i = 4 then mA s 4 n else if i = 5 then mA s 5 n else if i = 6 then (if mA s 1 n = 0 then mA s 4 n else mA s 6 n) else lgM s n (lsM s n) 0
theorem c_nfield {i : Nat} (w : RX X M h s g K) (mi : MI s g B K W) (hn : n < 5) (hB : B ≤ 1200) (hi : i < 8) : fX5_field (ndA X n) (Int32.ofNat i) h = some (ndN s n i, h) := by
  obtain ⟨q, y, T, q1, q2, q3, q4⟩ := q_snap w hn
  have lB := mi_ls mi n
  have bl := Nat.le_trans (mi_cm mi n).2.1 (mi_cm mi n).1
  have tl := c_termN w mi hn hB (i := lsM s n) (by omega)
  rw [if_pos ⟨bl, Nat.le_refl _⟩, ← mi_5 mi hn] at tl
  have : i = 0 ∨ i = 1 ∨ i = 2 ∨ i = 3 ∨ i = 4 ∨ i = 5 ∨ i = 6 ∨ i = 7 := by omega
  unfold fX5_field ndN
  rcases this with e | e | e | e | e | e | e | e <;> subst e
  · rw [if_pos (by decide), if_pos (by decide), q_up w hn, bd_some]
    by_cases u : mA s 1 n = 0
    · rw [if_pos u, if_pos u]
    · rw [if_neg u, if_neg u]
  · rw [if_neg (by decide), if_pos (by decide), if_neg (by decide), if_pos (by decide), q_disk w hn, bd_some, onR_some, q_term w hn, bd_some]
  · rw [if_neg (by decide), if_neg (by decide), if_pos (by decide), if_neg (by decide), if_neg (by decide), if_pos (by decide), q_disk w hn, bd_some, onR_some, q_voted w hn, bd_some]
  · rw [if_neg (by decide), if_neg (by decide), if_neg (by decide), if_pos (by decide), if_neg (by decide), if_neg (by decide), if_neg (by decide), if_pos (by decide), q_role w hn, bd_some]
  · rw [if_neg (by decide), if_neg (by decide), if_neg (by decide), if_neg (by decide), if_pos (by decide), if_neg (by decide), if_neg (by decide), if_neg (by decide), if_neg (by decide), if_pos (by decide), q_disk w hn, bd_some, onR_some, q1, bd_some, onR_some, sv_b q4, bd_some]
  · rw [if_neg (by decide), if_neg (by decide), if_neg (by decide), if_neg (by decide), if_neg (by decide), if_pos (by decide), if_neg (by decide), if_neg (by decide), if_neg (by decide), if_neg (by decide), if_neg (by decide), if_pos (by decide), q_disk w hn, bd_some, onR_some, q_last w hn, bd_some]
  · rw [if_neg (by decide), if_neg (by decide), if_neg (by decide), if_neg (by decide), if_neg (by decide), if_neg (by decide), if_pos (by decide), if_neg (by decide), if_neg (by decide), if_neg (by decide), if_neg (by decide), if_neg (by decide), if_neg (by decide), if_pos (by decide), q_com w hn, bd_some]
  · rw [if_neg (by decide), if_neg (by decide), if_neg (by decide), if_neg (by decide), if_neg (by decide), if_neg (by decide), if_neg (by decide), if_neg (by decide), if_neg (by decide), if_neg (by decide), if_neg (by decide), if_neg (by decide), if_neg (by decide), if_neg (by decide), q_disk w hn, bd_some, onR_some, bd_some, onR_some, q_last w hn, bd_some, if_pos (q_k1 w hn), tl, bd2_some]
theorem y_cs {y : Int32} (y0 : 0 ≤ y) (y13 : y ≤ (13 : Int32)) : ∃ i, i ≤ 13 ∧ y = Int32.ofNat i := by
  refine ⟨y.toNatClampNeg, ?_, io_of y0⟩
  rw [io_of y0, show (13 : Int32) = Int32.ofNat 13 from rfl, io_le (Int32.toNatClampNeg_lt _) (by decide)] at y13
  exact y13
/-- the reference's answer, of the node -/
theorem g_nlow {i : Nat} (mi : MI s g B K W) (hn : n < 5) (hB : B ≤ 1200) (hi : i < 8) : gX10_node_36 (Int32.ofNat n) (Int32.ofNat i) 0 s = some (ndN s n i, uF s 0 0) := by
  have lB := mi_ls mi n
  have l5 := mi_5 mi hn
  have : i = 0 ∨ i = 1 ∨ i = 2 ∨ i = 3 ∨ i = 4 ∨ i = 5 ∨ i = 6 ∨ i = 7 := by omega
  unfold gX10_node_36 ndN
  rw [g_bad0, bdm_some, if_pos rfl]
  rcases this with e | e | e | e | e | e | e | e <;> subst e
  · rw [if_pos (by decide), if_pos (by decide), ld_1 hn, bd_some, mA_uF]
    by_cases u : mA s 1 n = 0
    · rw [if_pos u, if_pos u]
    · rw [if_neg u, if_neg u]
  · rw [if_neg (by decide), if_pos (by decide), if_neg (by decide), if_pos (by decide), ld_2 hn, bd_some, mA_uF]
  · rw [if_neg (by decide), if_neg (by decide), if_pos (by decide), if_neg (by decide), if_neg (by decide), if_pos (by decide), ld_3 hn, bd_some, mA_uF]
  · rw [if_neg (by decide), if_neg (by decide), if_neg (by decide), if_pos (by decide), if_neg (by decide), if_neg (by decide), if_neg (by decide), if_pos (by decide), ld_8 hn, bd_some, mA_uF]
  · rw [if_neg (by decide), if_neg (by decide), if_neg (by decide), if_neg (by decide), if_pos (by decide), if_neg (by decide), if_neg (by decide), if_neg (by decide), if_neg (by decide), if_pos (by decide), ld_4 hn, bd_some, mA_uF]
  · rw [if_neg (by decide), if_neg (by decide), if_neg (by decide), if_neg (by decide), if_neg (by decide), if_pos (by decide), if_neg (by decide), if_neg (by decide), if_neg (by decide), if_neg (by decide), if_neg (by decide), if_pos (by decide), ld_5 hn, bd_some, mA_uF]
  · rw [if_neg (by decide), if_neg (by decide), if_neg (by decide), if_neg (by decide), if_neg (by decide), if_neg (by decide), if_pos (by decide), if_neg (by decide), if_neg (by decide), if_neg (by decide), if_neg (by decide), if_neg (by decide), if_neg (by decide), if_pos (by decide), ld_1 hn, bd_some, mA_uF]
    by_cases u : mA s 1 n = 0
    · rw [if_pos u, if_pos u, ld_4 hn, bd_some, mA_uF]
    · rw [if_neg u, if_neg u, ld_6 hn, bd_some, mA_uF]
  · rw [if_neg (by decide), if_neg (by decide), if_neg (by decide), if_neg (by decide), if_neg (by decide), if_neg (by decide), if_neg (by decide), if_pos (by decide), if_neg (by decide), if_neg (by decide), if_neg (by decide), if_neg (by decide), if_neg (by decide), if_neg (by decide), if_neg (by decide), ld_5 hn, bd_some, mA_uF, l5, g_termAt hn (show lsM s n ≤ 1200 by omega), bdm_some, lg_0 (show lsM s n ≤ 1200 by omega)]
    rfl
/-- .. of its store -/
theorem g_nhigh {i V N : Nat} {s2 p : MS} (hn : n < 5) (h8 : 8 ≤ i) (h13 : i ≤ 13) (u : ¬ mA s 1 n = 0) (a1 : gX10_work (Int32.ofNat n) (uF s 0 0) = some ((), s2)) (a : SM s2 p) (pi : PI p N) (hN : N < 1000) (hV : V < 256) (hb : ∀ l, l < 8 → (V.testBit l = true ↔ mA p 32 (l + 1) = 1)) : gX10_node_36 (Int32.ofNat n) (Int32.ofNat i) 0 s = some (ndS p V i, s2) := by
  have hE := pi_n pi
  have wf := pi_wf pi
  have wf2 := sm_wf a wf
  have n2 := sm_n a
  have : i = 8 ∨ i = 9 ∨ i = 10 ∨ i = 11 ∨ i = 12 ∨ i = 13 := by omega
  unfold gX10_node_36 ndS
  rw [g_bad0, bdm_some, if_pos rfl]
  rcases this with e | e | e | e | e | e <;> subst e
  · rw [if_neg (by decide), if_neg (by decide), if_neg (by decide), if_neg (by decide), if_neg (by decide), if_neg (by decide), if_neg (by decide), if_neg (by decide), ld_1 hn, bd_some, mA_uF, if_neg u, a1, bdm_some, if_pos (by decide), if_pos (by decide)]
    show some (mF s2 40, s2) = _
    rw [a.1]
  · rw [if_neg (by decide), if_neg (by decide), if_neg (by decide), if_neg (by decide), if_neg (by decide), if_neg (by decide), if_neg (by decide), if_neg (by decide), ld_1 hn, bd_some, mA_uF, if_neg u, a1, bdm_some, if_neg (by decide), if_pos (by decide), if_neg (by decide), if_pos (by decide)]
    show some (mF s2 41, s2) = _
    rw [a.2.1]
  · rw [if_neg (by decide), if_neg (by decide), if_neg (by decide), if_neg (by decide), if_neg (by decide), if_neg (by decide), if_neg (by decide), if_neg (by decide), ld_1 hn, bd_some, mA_uF, if_neg u, a1, bdm_some, if_neg (by decide), if_neg (by decide), if_pos (by decide), if_neg (by decide), if_neg (by decide), if_pos (by decide)]
    show some (mF s2 42, s2) = _
    rw [a.2.2.1]
  · rw [if_neg (by decide), if_neg (by decide), if_neg (by decide), if_neg (by decide), if_neg (by decide), if_neg (by decide), if_neg (by decide), if_neg (by decide), ld_1 hn, bd_some, mA_uF, if_neg u, a1, bdm_some, if_neg (by decide), if_neg (by decide), if_neg (by decide), if_pos (by decide), if_neg (by decide), if_neg (by decide), if_neg (by decide), if_pos (by decide)]
    rw [show (0 : Int32) = Int32.ofNat 0 from rfl]
    exact g_kt a pi (by omega) 64 0 LF 0 rfl (LF_lt (by decide))
  · rw [if_neg (by decide), if_neg (by decide), if_neg (by decide), if_neg (by decide), if_neg (by decide), if_neg (by decide), if_neg (by decide), if_neg (by decide), ld_1 hn, bd_some, mA_uF, if_neg u, a1, bdm_some, if_neg (by decide), if_neg (by decide), if_neg (by decide), if_neg (by decide), if_pos (by decide), if_neg (by decide), if_neg (by decide), if_neg (by decide), if_neg (by decide), if_pos (by decide)]
    have r := g_lb a pi.2.2.2 hV hb 8 0 LF rfl (LF_lt (by decide))
    rw [Nat.pow_zero, Nat.mod_one] at r
    exact r
  · rw [if_neg (by decide), if_neg (by decide), if_neg (by decide), if_neg (by decide), if_neg (by decide), if_neg (by decide), if_neg (by decide), if_neg (by decide), ld_1 hn, bd_some, mA_uF, if_neg u, a1, bdm_some, if_neg (by decide), if_neg (by decide), if_neg (by decide), if_neg (by decide), if_neg (by decide), if_neg (by decide), if_neg (by decide), if_neg (by decide), if_neg (by decide), if_neg (by decide)]
    show (bdm (gX10_firstEvent s2) fun z5 s5 => some ((mF s2 47 - z5), s5)) = _
    have w2 : mF s2 47 = Int32.ofNat (nE s2) := wf2
    have fl := fV_le p
    rw [g_first wf2 (by omega), bdm_some, w2, n2, sm_fV a, io_sb fl]
theorem law_node (hj : j < 64) (J : JJ X M j h) (x y : Int32) : OKi (JJ X M (j + 1)) M (M + 39) h (fL_node X x y (M + 39)) (fX10_node M x y) := by
  obtain ⟨s, kp, g, K, W, w, mi0, ca, ap, hk⟩ := J
  have mi := mi_B (Nat.le_succ j) mi0
  have fn : FN X M (j + 1) h s := ⟨g, K, W, w, mi, ca, ap, by omega⟩
  have er : ∀ H, MW M H → fX10_node M x y (pm M H s) = lft M H (gX10_node x y s) := fun H hw => eX10_node hw x y s
  rcases nd_cs x with z | ⟨n, hn, rfl⟩
  · refine ok_i (k := 1) (h1 := h) (s' := uF s 0 1) (b := 0) ?_ er ?_ mF_h0 (fun q => absurd q (by decide)) kp (fn_F fn)
    · unfold fL_node fX9_node
      rw [if_pos (q_kX w), if_pos (q_kX w), c_nodeNo w z, bdx_inr, bdc_inr, if_pos rfl]
    · unfold gX10_node gX10_node_13
      rw [g_noN z, bdm_some, if_pos rfl, g_bad1, bdm_some, if_neg (by decide)]
  · by_cases v : 0 ≤ y ∧ y ≤ (13 : Int32)
    · have v0 : ¬ y < 0 := Int32.not_lt.mpr v.1
      have v13 := v.2
      have v14 := l_1413.mpr v.2
      obtain ⟨i, hi, rfl⟩ := y_cs v.1 v.2
      have m1 : MI (uF s 0 0) g (j + 1) K W := mi_F mi (by decide)
      have red : gX10_node (Int32.ofNat n) (Int32.ofNat i) s = gX10_node_36 (Int32.ofNat n) (Int32.ofNat i) 0 (uF s 0 0) := by
        unfold gX10_node gX10_node_13
        rw [g_isN hn, bdm_some, if_neg (by decide), g_bad0, bdm_some, if_pos rfl, if_neg v0, if_pos v13]
      by_cases i8 : i < 8
      · have l8 : ¬ (8 : Int32) ≤ Int32.ofNat i := by rw [show (8 : Int32) = Int32.ofNat 8 from rfl, io_le (by omega) (by omega)]; omega
        refine ok_iv (h1 := h) (s' := uF (uF s 0 0) 0 0) (b := ndN s n i) ?_ er ?_ mF_h0 kp (fn_F (fn_F fn))
        · unfold fL_node fX9_node
          rw [if_pos (q_kX w), if_pos (q_kX w), c_nodeAt w hn, bdx_inl, onR_some, if_neg v0, if_pos v14, if_neg l8, if_pos (q_k5 w hn), c_nfield w mi hn (by omega) i8, bd2_some, bdc_inl]
        · rw [red, g_nlow m1 hn (by omega) i8]
          rfl
      · have l8 : (8 : Int32) ≤ Int32.ofNat i := by rw [show (8 : Int32) = Int32.ofNat 8 from rfl, io_le (by omega) (by omega)]; omega
        by_cases u : mA s 1 n = 0
        · refine ok_iv (h1 := h) (s' := uF (uF s 0 0) 0 0) (b := 0) ?_ er ?_ mF_h0 kp (fn_F (fn_F fn))
          · unfold fL_node fX9_node
            rw [if_pos (q_kX w), if_pos (q_kX w), c_nodeAt w hn, bdx_inl, onR_some, if_neg v0, if_pos v14, if_pos l8, q_up w hn, bd_some, if_pos u, bdc_inl]
          · have c : ∀ k : Nat, k < 8 → ¬ Int32.ofNat i = Int32.ofNat k := fun k hk => by rw [io_eq (by omega) (by omega)]; omega
            rw [red]
            unfold gX10_node_36
            rw [g_bad0, bdm_some, if_pos rfl, if_neg (show ¬ Int32.ofNat i = (0 : Int32) from c 0 (by decide)), if_neg (show ¬ Int32.ofNat i = (1 : Int32) from c 1 (by decide)), if_neg (show ¬ Int32.ofNat i = (2 : Int32) from c 2 (by decide)), if_neg (show ¬ Int32.ofNat i = (3 : Int32) from c 3 (by decide)), if_neg (show ¬ Int32.ofNat i = (4 : Int32) from c 4 (by decide)), if_neg (show ¬ Int32.ofNat i = (5 : Int32) from c 5 (by decide)), if_neg (show ¬ Int32.ofNat i = (6 : Int32) from c 6 (by decide)), if_neg (show ¬ Int32.ofNat i = (7 : Int32) from c 7 (by decide)), ld_1 hn, bd_some, mA_uF, mA_uF, if_pos u]
        · have hu := (mi.2.1 n hn).1.resolve_left u
          obtain ⟨sc, pi, c18, res⟩ := rd_set w mi hn hu (by omega) (ap n hn hu)
          obtain ⟨s2, a1, a2, a3, a4, a5⟩ := fn_work (fn_F (v := 0) (fn_F (v := 0) fn)) hn (by omega)
          have a2' : SM s2 (rp (lgM s n) (cmM s n)) := a2
          obtain ⟨V, V1, V2, V3⟩ := sc.2.2.2.2.2.1
          refine ok_iv (h1 := h) (s' := s2) (b := ndS (rp (lgM s n) (cmM s n)) V i) ?_ er ?_ (by rw [a5, mF_h0]) kp a4
          · unfold fL_node fX9_node
            have r7 := r7_of (fun t => eX7_field (q_sw w hn) (Int32.ofNat i) t) (c7_fld sc V2 (by omega) hi)
            rw [if_pos (q_kX w), if_pos (q_kX w), c_nodeAt w hn, bdx_inl, onR_some, if_neg v0, if_pos v14, if_pos l8, q_up w hn, bd_some, if_neg u, q_store w hn, bd_some, onR_some, if_pos (q_sw w hn).1, r7, bd2_some, bdc_inl]
          · rw [red]
            exact g_nhigh hn (by omega) hi u a1 a2' pi (by omega) V1 V3
    · refine ok_i (k := 2) (h1 := h) (s' := uF (uF s 0 0) 0 2) (b := 0) ?_ er ?_ mF_h0 (fun q => absurd q (by decide)) kp (fn_F (fn_F fn))
      · unfold fL_node fX9_node fX9_node_16
        rw [if_pos (q_kX w), if_pos (q_kX w), c_nodeAt w hn, bdx_inl, onR_some]
        by_cases w0 : y < 0
        · rw [if_pos w0, bdc_inr, if_neg (by decide), if_pos rfl]
        · rw [if_neg w0, if_neg (fun q => v ⟨Int32.not_lt.mp w0, l_1413.mp q⟩), bdc_inr, if_neg (by decide), if_pos rfl]
      · unfold gX10_node gX10_node_13 gX10_node_31 gX10_node_36
        rw [g_isN hn, bdm_some, if_neg (by decide), g_bad0, bdm_some, if_pos rfl]
        by_cases w0 : y < 0
        · rw [if_pos w0, g_bad1, bdm_some, if_neg (by decide)]
        · rw [if_neg w0, if_neg (fun q => v ⟨Int32.not_lt.mp w0, q⟩), g_bad1, bdm_some, if_neg (by decide)]
end
