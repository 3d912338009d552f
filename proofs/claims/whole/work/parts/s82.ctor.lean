/-! ===== the class's constructors ===== -/
theorem ne_off {a b c : Nat} (h : b ≠ c) : a + b ≠ a + c := fun q => h (Nat.add_left_cancel q)
theorem ne_0r {a c : Nat} (h : 0 < c) : a ≠ a + c := by omega
theorem ne_0l {a c : Nat} (h : 0 < c) : a + c ≠ a := by omega
theorem lt_off {a b c : Nat} (h : b < c) : a + b < a + c := by omega
theorem lt_x0 {a c : Nat} (h : 0 < c) : a < a + c := by omega
theorem le_off {a b c : Nat} (e : b = a) : b ≤ a + c := by omega
theorem bl_ne {a b j c : Nat} (hj : j ≤ 8) (hc : c < b ∨ b + 8 < c) : a + b + j ≠ a + c := by omega
theorem bl_0 {a b j : Nat} (hb : 0 < b) : a + b + j ≠ a := by omega
def OB (h : Hp) (a c : Nat) (F : Nat → Option Nat) (G : Nat → Int32) : Prop := hK h a = some (c, 0) ∧ (∀ g, hR h g a = F g) ∧ ∀ g, hI h g a = G g
def AQ (h : Hp) (a t n : Nat) : Prop := hK h a = some (t, n) ∧ (∀ i, aI h a i = 0) ∧ ∀ i, aR h a i = none
section
variable {h h' : Hp} {a b c z t n f : Nat} {F : Nat → Option Nat} {G : Nat → Int32} {v : Int32} {w : Option Nat}
theorem ob_sa (s : SA h h' a) (o : OB h a c F G) : OB h' a c F G := ⟨s.1.trans o.1, fun g => (s.2.2.2.1 g).trans (o.2.1 g), fun g => (s.2.1 g).trans (o.2.2 g)⟩
theorem aq_sa (s : SA h h' a) (o : AQ h a t n) : AQ h' a t n := ⟨s.1.trans o.1, fun i => by rw [s.2.2.2.2.1]; exact o.2.1 i, fun i => by rw [s.2.2.2.2.2.2]; exact o.2.2 i⟩
theorem ob_sRh (o : OB h a c F G) : OB (sR h f a w) a c (up1 F f w) G := ⟨o.1, fun g => by
  rw [hR_sR]
  by_cases e : g = f
  · rw [if_pos ⟨e, rfl⟩]; exact (if_pos e).symm
  · rw [if_neg (fun q => e q.1), o.2.1]; exact (if_neg e).symm, o.2.2⟩
theorem ob_sIh (o : OB h a c F G) : OB (sI h f a v) a c F (up1 G f v) := ⟨o.1, o.2.1, fun g => by
  rw [hI_sI]
  by_cases e : g = f
  · rw [if_pos ⟨e, rfl⟩]; exact (if_pos e).symm
  · rw [if_neg (fun q => e q.1), o.2.2]; exact (if_neg e).symm⟩
theorem ob_sRn (e : a ≠ b) (o : OB h a c F G) : OB (sR h f b w) a c F G := ob_sa (sa_sR e) o
theorem ob_sIn (e : a ≠ b) (o : OB h a c F G) : OB (sI h f b v) a c F G := ob_sa (sa_sI e) o
theorem ob_nO {k : Nat} (e : hZ h = z) (e2 : a ≠ z) (o : OB h a c F G) : OB (nO h k) a c F G := ob_sa (sa_nO (fun q => e2 (q.trans e))) o
theorem ob_nA (e : hZ h = z) (e2 : a ≠ z) (o : OB h a c F G) : OB (nA h t n) a c F G := ob_sa (sa_nA (fun q => e2 (q.trans e))) o
theorem ob_new (e : hZ h = z) : OB (nO h c) z c (fun _ => none) (fun _ => 0) := ⟨by rw [hK_nO, if_pos e.symm], fun g => by rw [hR_nO, if_pos e.symm], fun g => by rw [hI_nO, if_pos e.symm]⟩
theorem aq_sR (o : AQ h a t n) : AQ (sR h f b w) a t n := o
theorem aq_sI (o : AQ h a t n) : AQ (sI h f b v) a t n := o
theorem aq_nO {k : Nat} (e : hZ h = z) (e2 : a ≠ z) (o : AQ h a t n) : AQ (nO h k) a t n := aq_sa (sa_nO (fun q => e2 (q.trans e))) o
theorem aq_nA {t' n' : Nat} (e : hZ h = z) (e2 : a ≠ z) (o : AQ h a t n) : AQ (nA h t' n') a t n := aq_sa (sa_nA (fun q => e2 (q.trans e))) o
theorem aq_new (e : hZ h = z) : AQ (nA h t n) z t n := ⟨by rw [hK_nA, if_pos e.symm], fun i => by rw [aI_nA, if_pos e.symm], fun i => by rw [aR_nA, if_pos e.symm]⟩
end
theorem c7i {h : Hp} {z : Nat} (e : hZ h = z) : fX7_init z (nO h 7) = some ((), nS h) := by rw [← e]; exact c_init7 h
theorem pZ_k {ci k a : Nat} {v : Int32} {h : Hp} (e : hK h a = some (ci, 0)) (hv : v = 0 ∨ v = 1) : pZ h ci k a v = some (sI h (gq ci k) a v) := if_pos ⟨e, hv⟩
/-- a Node as it is made -/
def NF (X : Nat) (h : Hp) (a n : Nat) : Prop := NS X h a n ∧ (hI h (gq 5 3) a = 1 ∧ hI h (gq 5 4) a = 0 ∧ hI h (gq 5 5) a = 0 ∧ hI h (gq 5 10) a = 0 ∧ hI h (gq 5 11) a = 0 ∧ hI h (gq 1 0) (a + 13) = 0 ∧ hI h (gq 1 1) (a + 13) = -1 ∧ hI h (gq 1 2) (a + 13) = 0 ∧ hI h (gq 1 4) (a + 13) = -1) ∧ ((∀ i, aI h (a + 11) i = 0) ∧ ∀ i, aI h (a + 12) i = 0) ∧ hR h (gq 1 3) (a + 13) = some (X + 6) ∧ SC (rdS (a + 1) h) pZero
theorem nf_sa {X : Nat} {h h' : Hp} {a n : Nat} (s : ∀ b, a ≤ b → b ≤ a + 14 → SA h h' b) (w : NF X h a n) : NF X h' a n := by
  obtain ⟨w1, ⟨i1, i2, i3, i4, i5, i6, i7, i8, i9⟩, ⟨a1, a2⟩, r, c⟩ := w
  have s0 := (s a (by omega) (by omega)).2.1
  have s1 := (s (a + 13) (by omega) (by omega)).2.1
  exact ⟨ns_sa s w1, ⟨(s0 _).trans i1, (s0 _).trans i2, (s0 _).trans i3, (s0 _).trans i4, (s0 _).trans i5, (s1 _).trans i6, (s1 _).trans i7, (s1 _).trans i8, (s1 _).trans i9⟩, ⟨fun i => by rw [(s (a + 11) (by omega) (by omega)).2.2.2.2.1]; exact a1 i, fun i => by rw [(s (a + 12) (by omega) (by omega)).2.2.2.2.1]; exact a2 i⟩, ((s (a + 13) (by omega) (by omega)).2.2.2.1 _).trans r, sc_sa (fun j hj => s _ (by omega) (by omega)) c⟩
theorem c_node {X a n : Nat} {h : Hp} (Z0 : hZ h = a) : ∃ h', fX5_init a (Int32.ofNat n) (X + 1) (X + 3) (X + 6) (nO h 5) = some ((), h') ∧ Ch h h' (fun _ => False) ∧ hZ h' = a + 15 ∧ NF X h' a n := by
  have C0 : Ch h h (fun _ => False) := ch_refl h _
  obtain ⟨h1, e1⟩ : ∃ x, x = nO h 5 := ⟨_, rfl⟩
  have Z1 : hZ h1 = a + 1 := by rw [e1, hZ_nO, Z0]
  have C1 : Ch h h1 (fun _ => False) := by rw [e1]; exact ch_nOn C0
  have O1_0 : OB h1 a 5 (fun _ => none) (fun _ => 0) := by rw [e1]; exact ob_new Z0
  obtain ⟨h2, e2⟩ : ∃ x, x = nS h1 := ⟨_, rfl⟩
  have Z2 : hZ h2 = a + 10 := by rw [e2, z9, Z1]
  have C2 : Ch h h2 (fun _ => False) := by rw [e2]; exact ch_trans C1 (ch_nS h1)
  have O2_0 : OB h2 a 5 (fun _ => none) (fun _ => 0) := by rw [e2]; exact ob_sa ((ch_nS h1).2 _ (by rw [Z1]; exact lt_x0 (by decide)) id) O1_0
  have W : SW (a + 1) h2 := by have := sw_nS h1; rw [Z1, ← e2] at this; exact this
  have Q : SC (rdS (a + 1) h2) pZero := by have := sc_nS h1; rw [Z1, ← e2] at this; exact this
  have B2 : ∀ j, j ≤ 8 → SA h2 h2 (a + 1 + j) := fun j _ => sa_refl _ _
  obtain ⟨h3, e3⟩ : ∃ x, x = sR h2 (gq 5 1) a (some (a + 1)) := ⟨_, rfl⟩
  have Z3 : hZ h3 = a + 10 := by rw [e3, hZ_sR, Z2]
  have C3 : Ch h h3 (fun _ => False) := by rw [e3]; exact ch_sRn C2 (Nat.le_of_eq Z0)
  have O3_0 : OB h3 a 5 (up1 (fun _ => none) (gq 5 1) (some (a + 1))) (fun _ => 0) := by rw [e3]; exact ob_sRh O2_0
  have B3 : ∀ j, j ≤ 8 → SA h2 h3 (a + 1 + j) := fun j hj => sa_trans (B2 j hj) (by rw [e3]; exact sa_sR (bl_0 (by decide)))
  obtain ⟨h4, e4⟩ : ∃ x, x = nA h3 11 1201 := ⟨_, rfl⟩
  have Z4 : hZ h4 = a + 11 := by rw [e4, hZ_nA, Z3]
  have C4 : Ch h h4 (fun _ => False) := by rw [e4]; exact ch_nAn C3
  have O4_0 : OB h4 a 5 (up1 (fun _ => none) (gq 5 1) (some (a + 1))) (fun _ => 0) := by rw [e4]; exact ob_nA Z3 (ne_0r (by decide)) O3_0
  have B4 : ∀ j, j ≤ 8 → SA h2 h4 (a + 1 + j) := fun j hj => sa_trans (B3 j hj) (by rw [e4]; exact sa_nA (by rw [Z3]; exact bl_ne hj (by decide)))
  have A4_10 : AQ h4 (a + 10) 11 1201 := by rw [e4]; exact aq_new Z3
  obtain ⟨h5, e5⟩ : ∃ x, x = sR h4 (gq 5 2) a (some (a + 10)) := ⟨_, rfl⟩
  have Z5 : hZ h5 = a + 11 := by rw [e5, hZ_sR, Z4]
  have C5 : Ch h h5 (fun _ => False) := by rw [e5]; exact ch_sRn C4 (Nat.le_of_eq Z0)
  have O5_0 : OB h5 a 5 (up1 (up1 (fun _ => none) (gq 5 1) (some (a + 1))) (gq 5 2) (some (a + 10))) (fun _ => 0) := by rw [e5]; exact ob_sRh O4_0
  have A5_10 : AQ h5 (a + 10) 11 1201 := by rw [e5]; exact aq_sR A4_10
  have B5 : ∀ j, j ≤ 8 → SA h2 h5 (a + 1 + j) := fun j hj => sa_trans (B4 j hj) (by rw [e5]; exact sa_sR (bl_0 (by decide)))
  obtain ⟨h6, e6⟩ : ∃ x, x = sI h5 (gq 5 3) a 1 := ⟨_, rfl⟩
  have Z6 : hZ h6 = a + 11 := by rw [e6, hZ_sI, Z5]
  have C6 : Ch h h6 (fun _ => False) := by rw [e6]; exact ch_sIn C5 (Nat.le_of_eq Z0)
  have O6_0 : OB h6 a 5 (up1 (up1 (fun _ => none) (gq 5 1) (some (a + 1))) (gq 5 2) (some (a + 10))) (up1 (fun _ => 0) (gq 5 3) 1) := by rw [e6]; exact ob_sIh O5_0
  have A6_10 : AQ h6 (a + 10) 11 1201 := by rw [e6]; exact aq_sI A5_10
  have B6 : ∀ j, j ≤ 8 → SA h2 h6 (a + 1 + j) := fun j hj => sa_trans (B5 j hj) (by rw [e6]; exact sa_sI (bl_0 (by decide)))
  obtain ⟨h7, e7⟩ : ∃ x, x = sI h6 (gq 5 4) a 0 := ⟨_, rfl⟩
  have Z7 : hZ h7 = a + 11 := by rw [e7, hZ_sI, Z6]
  have C7 : Ch h h7 (fun _ => False) := by rw [e7]; exact ch_sIn C6 (Nat.le_of_eq Z0)
  have O7_0 : OB h7 a 5 (up1 (up1 (fun _ => none) (gq 5 1) (some (a + 1))) (gq 5 2) (some (a + 10))) (up1 (up1 (fun _ => 0) (gq 5 3) 1) (gq 5 4) 0) := by rw [e7]; exact ob_sIh O6_0
  have A7_10 : AQ h7 (a + 10) 11 1201 := by rw [e7]; exact aq_sI A6_10
  have B7 : ∀ j, j ≤ 8 → SA h2 h7 (a + 1 + j) := fun j hj => sa_trans (B6 j hj) (by rw [e7]; exact sa_sI (bl_0 (by decide)))
  obtain ⟨h8, e8⟩ : ∃ x, x = nA h7 11 5 := ⟨_, rfl⟩
  have Z8 : hZ h8 = a + 12 := by rw [e8, hZ_nA, Z7]
  have C8 : Ch h h8 (fun _ => False) := by rw [e8]; exact ch_nAn C7
  have O8_0 : OB h8 a 5 (up1 (up1 (fun _ => none) (gq 5 1) (some (a + 1))) (gq 5 2) (some (a + 10))) (up1 (up1 (fun _ => 0) (gq 5 3) 1) (gq 5 4) 0) := by rw [e8]; exact ob_nA Z7 (ne_0r (by decide)) O7_0
  have A8_10 : AQ h8 (a + 10) 11 1201 := by rw [e8]; exact aq_nA Z7 (ne_off (by decide)) A7_10
  have B8 : ∀ j, j ≤ 8 → SA h2 h8 (a + 1 + j) := fun j hj => sa_trans (B7 j hj) (by rw [e8]; exact sa_nA (by rw [Z7]; exact bl_ne hj (by decide)))
  have A8_11 : AQ h8 (a + 11) 11 5 := by rw [e8]; exact aq_new Z7
  obtain ⟨h9, e9⟩ : ∃ x, x = sR h8 (gq 5 12) a (some (a + 11)) := ⟨_, rfl⟩
  have Z9 : hZ h9 = a + 12 := by rw [e9, hZ_sR, Z8]
  have C9 : Ch h h9 (fun _ => False) := by rw [e9]; exact ch_sRn C8 (Nat.le_of_eq Z0)
  have O9_0 : OB h9 a 5 (up1 (up1 (up1 (fun _ => none) (gq 5 1) (some (a + 1))) (gq 5 2) (some (a + 10))) (gq 5 12) (some (a + 11))) (up1 (up1 (fun _ => 0) (gq 5 3) 1) (gq 5 4) 0) := by rw [e9]; exact ob_sRh O8_0
  have A9_10 : AQ h9 (a + 10) 11 1201 := by rw [e9]; exact aq_sR A8_10
  have A9_11 : AQ h9 (a + 11) 11 5 := by rw [e9]; exact aq_sR A8_11
  have B9 : ∀ j, j ≤ 8 → SA h2 h9 (a + 1 + j) := fun j hj => sa_trans (B8 j hj) (by rw [e9]; exact sa_sR (bl_0 (by decide)))
  obtain ⟨h10, e10⟩ : ∃ x, x = nA h9 11 5 := ⟨_, rfl⟩
  have Z10 : hZ h10 = a + 13 := by rw [e10, hZ_nA, Z9]
  have C10 : Ch h h10 (fun _ => False) := by rw [e10]; exact ch_nAn C9
  have O10_0 : OB h10 a 5 (up1 (up1 (up1 (fun _ => none) (gq 5 1) (some (a + 1))) (gq 5 2) (some (a + 10))) (gq 5 12) (some (a + 11))) (up1 (up1 (fun _ => 0) (gq 5 3) 1) (gq 5 4) 0) := by rw [e10]; exact ob_nA Z9 (ne_0r (by decide)) O9_0
  have A10_10 : AQ h10 (a + 10) 11 1201 := by rw [e10]; exact aq_nA Z9 (ne_off (by decide)) A9_10
  have A10_11 : AQ h10 (a + 11) 11 5 := by rw [e10]; exact aq_nA Z9 (ne_off (by decide)) A9_11
  have B10 : ∀ j, j ≤ 8 → SA h2 h10 (a + 1 + j) := fun j hj => sa_trans (B9 j hj) (by rw [e10]; exact sa_nA (by rw [Z9]; exact bl_ne hj (by decide)))
  have A10_12 : AQ h10 (a + 12) 11 5 := by rw [e10]; exact aq_new Z9
  obtain ⟨h11, e11⟩ : ∃ x, x = sR h10 (gq 5 13) a (some (a + 12)) := ⟨_, rfl⟩
  have Z11 : hZ h11 = a + 13 := by rw [e11, hZ_sR, Z10]
  have C11 : Ch h h11 (fun _ => False) := by rw [e11]; exact ch_sRn C10 (Nat.le_of_eq Z0)
  have O11_0 : OB h11 a 5 (up1 (up1 (up1 (up1 (fun _ => none) (gq 5 1) (some (a + 1))) (gq 5 2) (some (a + 10))) (gq 5 12) (some (a + 11))) (gq 5 13) (some (a + 12))) (up1 (up1 (fun _ => 0) (gq 5 3) 1) (gq 5 4) 0) := by rw [e11]; exact ob_sRh O10_0
  have A11_10 : AQ h11 (a + 10) 11 1201 := by rw [e11]; exact aq_sR A10_10
  have A11_11 : AQ h11 (a + 11) 11 5 := by rw [e11]; exact aq_sR A10_11
  have A11_12 : AQ h11 (a + 12) 11 5 := by rw [e11]; exact aq_sR A10_12
  have B11 : ∀ j, j ≤ 8 → SA h2 h11 (a + 1 + j) := fun j hj => sa_trans (B10 j hj) (by rw [e11]; exact sa_sR (bl_0 (by decide)))
  obtain ⟨h12, e12⟩ : ∃ x, x = sI h11 (gq 5 6) a (Int32.ofNat n) := ⟨_, rfl⟩
  have Z12 : hZ h12 = a + 13 := by rw [e12, hZ_sI, Z11]
  have C12 : Ch h h12 (fun _ => False) := by rw [e12]; exact ch_sIn C11 (Nat.le_of_eq Z0)
  have O12_0 : OB h12 a 5 (up1 (up1 (up1 (up1 (fun _ => none) (gq 5 1) (some (a + 1))) (gq 5 2) (some (a + 10))) (gq 5 12) (some (a + 11))) (gq 5 13) (some (a + 12))) (up1 (up1 (up1 (fun _ => 0) (gq 5 3) 1) (gq 5 4) 0) (gq 5 6) (Int32.ofNat n)) := by rw [e12]; exact ob_sIh O11_0
  have A12_10 : AQ h12 (a + 10) 11 1201 := by rw [e12]; exact aq_sI A11_10
  have A12_11 : AQ h12 (a + 11) 11 5 := by rw [e12]; exact aq_sI A11_11
  have A12_12 : AQ h12 (a + 12) 11 5 := by rw [e12]; exact aq_sI A11_12
  have B12 : ∀ j, j ≤ 8 → SA h2 h12 (a + 1 + j) := fun j hj => sa_trans (B11 j hj) (by rw [e12]; exact sa_sI (bl_0 (by decide)))
  obtain ⟨h13, e13⟩ : ∃ x, x = sR h12 (gq 5 7) a (some (X + 1)) := ⟨_, rfl⟩
  have Z13 : hZ h13 = a + 13 := by rw [e13, hZ_sR, Z12]
  have C13 : Ch h h13 (fun _ => False) := by rw [e13]; exact ch_sRn C12 (Nat.le_of_eq Z0)
  have O13_0 : OB h13 a 5 (up1 (up1 (up1 (up1 (up1 (fun _ => none) (gq 5 1) (some (a + 1))) (gq 5 2) (some (a + 10))) (gq 5 12) (some (a + 11))) (gq 5 13) (some (a + 12))) (gq 5 7) (some (X + 1))) (up1 (up1 (up1 (fun _ => 0) (gq 5 3) 1) (gq 5 4) 0) (gq 5 6) (Int32.ofNat n)) := by rw [e13]; exact ob_sRh O12_0
  have A13_10 : AQ h13 (a + 10) 11 1201 := by rw [e13]; exact aq_sR A12_10
  have A13_11 : AQ h13 (a + 11) 11 5 := by rw [e13]; exact aq_sR A12_11
  have A13_12 : AQ h13 (a + 12) 11 5 := by rw [e13]; exact aq_sR A12_12
  have B13 : ∀ j, j ≤ 8 → SA h2 h13 (a + 1 + j) := fun j hj => sa_trans (B12 j hj) (by rw [e13]; exact sa_sR (bl_0 (by decide)))
  obtain ⟨h14, e14⟩ : ∃ x, x = sR h13 (gq 5 8) a (some (X + 3)) := ⟨_, rfl⟩
  have Z14 : hZ h14 = a + 13 := by rw [e14, hZ_sR, Z13]
  have C14 : Ch h h14 (fun _ => False) := by rw [e14]; exact ch_sRn C13 (Nat.le_of_eq Z0)
  have O14_0 : OB h14 a 5 (up1 (up1 (up1 (up1 (up1 (up1 (fun _ => none) (gq 5 1) (some (a + 1))) (gq 5 2) (some (a + 10))) (gq 5 12) (some (a + 11))) (gq 5 13) (some (a + 12))) (gq 5 7) (some (X + 1))) (gq 5 8) (some (X + 3))) (up1 (up1 (up1 (fun _ => 0) (gq 5 3) 1) (gq 5 4) 0) (gq 5 6) (Int32.ofNat n)) := by rw [e14]; exact ob_sRh O13_0
  have A14_10 : AQ h14 (a + 10) 11 1201 := by rw [e14]; exact aq_sR A13_10
  have A14_11 : AQ h14 (a + 11) 11 5 := by rw [e14]; exact aq_sR A13_11
  have A14_12 : AQ h14 (a + 12) 11 5 := by rw [e14]; exact aq_sR A13_12
  have B14 : ∀ j, j ≤ 8 → SA h2 h14 (a + 1 + j) := fun j hj => sa_trans (B13 j hj) (by rw [e14]; exact sa_sR (bl_0 (by decide)))
  obtain ⟨h15, e15⟩ : ∃ x, x = nO h14 1 := ⟨_, rfl⟩
  have Z15 : hZ h15 = a + 14 := by rw [e15, hZ_nO, Z14]
  have C15 : Ch h h15 (fun _ => False) := by rw [e15]; exact ch_nOn C14
  have O15_0 : OB h15 a 5 (up1 (up1 (up1 (up1 (up1 (up1 (fun _ => none) (gq 5 1) (some (a + 1))) (gq 5 2) (some (a + 10))) (gq 5 12) (some (a + 11))) (gq 5 13) (some (a + 12))) (gq 5 7) (some (X + 1))) (gq 5 8) (some (X + 3))) (up1 (up1 (up1 (fun _ => 0) (gq 5 3) 1) (gq 5 4) 0) (gq 5 6) (Int32.ofNat n)) := by rw [e15]; exact ob_nO Z14 (ne_0r (by decide)) O14_0
  have A15_10 : AQ h15 (a + 10) 11 1201 := by rw [e15]; exact aq_nO Z14 (ne_off (by decide)) A14_10
  have A15_11 : AQ h15 (a + 11) 11 5 := by rw [e15]; exact aq_nO Z14 (ne_off (by decide)) A14_11
  have A15_12 : AQ h15 (a + 12) 11 5 := by rw [e15]; exact aq_nO Z14 (ne_off (by decide)) A14_12
  have B15 : ∀ j, j ≤ 8 → SA h2 h15 (a + 1 + j) := fun j hj => sa_trans (B14 j hj) (by rw [e15]; exact sa_nO (by rw [Z14]; exact bl_ne hj (by decide)))
  have O15_13 : OB h15 (a + 13) 1 (fun _ => none) (fun _ => 0) := by rw [e15]; exact ob_new Z14
  obtain ⟨h16, e16⟩ : ∃ x, x = sI h15 (gq 1 1) (a + 13) (-1) := ⟨_, rfl⟩
  have Z16 : hZ h16 = a + 14 := by rw [e16, hZ_sI, Z15]
  have C16 : Ch h h16 (fun _ => False) := by rw [e16]; exact ch_sIn C15 (le_off Z0)
  have O16_0 : OB h16 a 5 (up1 (up1 (up1 (up1 (up1 (up1 (fun _ => none) (gq 5 1) (some (a + 1))) (gq 5 2) (some (a + 10))) (gq 5 12) (some (a + 11))) (gq 5 13) (some (a + 12))) (gq 5 7) (some (X + 1))) (gq 5 8) (some (X + 3))) (up1 (up1 (up1 (fun _ => 0) (gq 5 3) 1) (gq 5 4) 0) (gq 5 6) (Int32.ofNat n)) := by rw [e16]; exact ob_sIn (ne_0r (by decide)) O15_0
  have O16_13 : OB h16 (a + 13) 1 (fun _ => none) (up1 (fun _ => 0) (gq 1 1) (-1)) := by rw [e16]; exact ob_sIh O15_13
  have A16_10 : AQ h16 (a + 10) 11 1201 := by rw [e16]; exact aq_sI A15_10
  have A16_11 : AQ h16 (a + 11) 11 5 := by rw [e16]; exact aq_sI A15_11
  have A16_12 : AQ h16 (a + 12) 11 5 := by rw [e16]; exact aq_sI A15_12
  have B16 : ∀ j, j ≤ 8 → SA h2 h16 (a + 1 + j) := fun j hj => sa_trans (B15 j hj) (by rw [e16]; exact sa_sI (bl_ne hj (by decide)))
  obtain ⟨h17, e17⟩ : ∃ x, x = sI h16 (gq 1 4) (a + 13) (-1) := ⟨_, rfl⟩
  have Z17 : hZ h17 = a + 14 := by rw [e17, hZ_sI, Z16]
  have C17 : Ch h h17 (fun _ => False) := by rw [e17]; exact ch_sIn C16 (le_off Z0)
  have O17_0 : OB h17 a 5 (up1 (up1 (up1 (up1 (up1 (up1 (fun _ => none) (gq 5 1) (some (a + 1))) (gq 5 2) (some (a + 10))) (gq 5 12) (some (a + 11))) (gq 5 13) (some (a + 12))) (gq 5 7) (some (X + 1))) (gq 5 8) (some (X + 3))) (up1 (up1 (up1 (fun _ => 0) (gq 5 3) 1) (gq 5 4) 0) (gq 5 6) (Int32.ofNat n)) := by rw [e17]; exact ob_sIn (ne_0r (by decide)) O16_0
  have O17_13 : OB h17 (a + 13) 1 (fun _ => none) (up1 (up1 (fun _ => 0) (gq 1 1) (-1)) (gq 1 4) (-1)) := by rw [e17]; exact ob_sIh O16_13
  have A17_10 : AQ h17 (a + 10) 11 1201 := by rw [e17]; exact aq_sI A16_10
  have A17_11 : AQ h17 (a + 11) 11 5 := by rw [e17]; exact aq_sI A16_11
  have A17_12 : AQ h17 (a + 12) 11 5 := by rw [e17]; exact aq_sI A16_12
  have B17 : ∀ j, j ≤ 8 → SA h2 h17 (a + 1 + j) := fun j hj => sa_trans (B16 j hj) (by rw [e17]; exact sa_sI (bl_ne hj (by decide)))
  obtain ⟨h18, e18⟩ : ∃ x, x = nA h17 14 1201 := ⟨_, rfl⟩
  have Z18 : hZ h18 = a + 15 := by rw [e18, hZ_nA, Z17]
  have C18 : Ch h h18 (fun _ => False) := by rw [e18]; exact ch_nAn C17
  have O18_0 : OB h18 a 5 (up1 (up1 (up1 (up1 (up1 (up1 (fun _ => none) (gq 5 1) (some (a + 1))) (gq 5 2) (some (a + 10))) (gq 5 12) (some (a + 11))) (gq 5 13) (some (a + 12))) (gq 5 7) (some (X + 1))) (gq 5 8) (some (X + 3))) (up1 (up1 (up1 (fun _ => 0) (gq 5 3) 1) (gq 5 4) 0) (gq 5 6) (Int32.ofNat n)) := by rw [e18]; exact ob_nA Z17 (ne_0r (by decide)) O17_0
  have O18_13 : OB h18 (a + 13) 1 (fun _ => none) (up1 (up1 (fun _ => 0) (gq 1 1) (-1)) (gq 1 4) (-1)) := by rw [e18]; exact ob_nA Z17 (ne_off (by decide)) O17_13
  have A18_10 : AQ h18 (a + 10) 11 1201 := by rw [e18]; exact aq_nA Z17 (ne_off (by decide)) A17_10
  have A18_11 : AQ h18 (a + 11) 11 5 := by rw [e18]; exact aq_nA Z17 (ne_off (by decide)) A17_11
  have A18_12 : AQ h18 (a + 12) 11 5 := by rw [e18]; exact aq_nA Z17 (ne_off (by decide)) A17_12
  have B18 : ∀ j, j ≤ 8 → SA h2 h18 (a + 1 + j) := fun j hj => sa_trans (B17 j hj) (by rw [e18]; exact sa_nA (by rw [Z17]; exact bl_ne hj (by decide)))
  have A18_14 : AQ h18 (a + 14) 14 1201 := by rw [e18]; exact aq_new Z17
  obtain ⟨h19, e19⟩ : ∃ x, x = sR h18 (gq 1 5) (a + 13) (some (a + 14)) := ⟨_, rfl⟩
  have Z19 : hZ h19 = a + 15 := by rw [e19, hZ_sR, Z18]
  have C19 : Ch h h19 (fun _ => False) := by rw [e19]; exact ch_sRn C18 (le_off Z0)
  have O19_0 : OB h19 a 5 (up1 (up1 (up1 (up1 (up1 (up1 (fun _ => none) (gq 5 1) (some (a + 1))) (gq 5 2) (some (a + 10))) (gq 5 12) (some (a + 11))) (gq 5 13) (some (a + 12))) (gq 5 7) (some (X + 1))) (gq 5 8) (some (X + 3))) (up1 (up1 (up1 (fun _ => 0) (gq 5 3) 1) (gq 5 4) 0) (gq 5 6) (Int32.ofNat n)) := by rw [e19]; exact ob_sRn (ne_0r (by decide)) O18_0
  have O19_13 : OB h19 (a + 13) 1 (up1 (fun _ => none) (gq 1 5) (some (a + 14))) (up1 (up1 (fun _ => 0) (gq 1 1) (-1)) (gq 1 4) (-1)) := by rw [e19]; exact ob_sRh O18_13
  have A19_10 : AQ h19 (a + 10) 11 1201 := by rw [e19]; exact aq_sR A18_10
  have A19_11 : AQ h19 (a + 11) 11 5 := by rw [e19]; exact aq_sR A18_11
  have A19_12 : AQ h19 (a + 12) 11 5 := by rw [e19]; exact aq_sR A18_12
  have A19_14 : AQ h19 (a + 14) 14 1201 := by rw [e19]; exact aq_sR A18_14
  have B19 : ∀ j, j ≤ 8 → SA h2 h19 (a + 1 + j) := fun j hj => sa_trans (B18 j hj) (by rw [e19]; exact sa_sR (bl_ne hj (by decide)))
  obtain ⟨h20, e20⟩ : ∃ x, x = sR h19 (gq 1 3) (a + 13) (some (X + 6)) := ⟨_, rfl⟩
  have Z20 : hZ h20 = a + 15 := by rw [e20, hZ_sR, Z19]
  have C20 : Ch h h20 (fun _ => False) := by rw [e20]; exact ch_sRn C19 (le_off Z0)
  have O20_0 : OB h20 a 5 (up1 (up1 (up1 (up1 (up1 (up1 (fun _ => none) (gq 5 1) (some (a + 1))) (gq 5 2) (some (a + 10))) (gq 5 12) (some (a + 11))) (gq 5 13) (some (a + 12))) (gq 5 7) (some (X + 1))) (gq 5 8) (some (X + 3))) (up1 (up1 (up1 (fun _ => 0) (gq 5 3) 1) (gq 5 4) 0) (gq 5 6) (Int32.ofNat n)) := by rw [e20]; exact ob_sRn (ne_0r (by decide)) O19_0
  have O20_13 : OB h20 (a + 13) 1 (up1 (up1 (fun _ => none) (gq 1 5) (some (a + 14))) (gq 1 3) (some (X + 6))) (up1 (up1 (fun _ => 0) (gq 1 1) (-1)) (gq 1 4) (-1)) := by rw [e20]; exact ob_sRh O19_13
  have A20_10 : AQ h20 (a + 10) 11 1201 := by rw [e20]; exact aq_sR A19_10
  have A20_11 : AQ h20 (a + 11) 11 5 := by rw [e20]; exact aq_sR A19_11
  have A20_12 : AQ h20 (a + 12) 11 5 := by rw [e20]; exact aq_sR A19_12
  have A20_14 : AQ h20 (a + 14) 14 1201 := by rw [e20]; exact aq_sR A19_14
  have B20 : ∀ j, j ≤ 8 → SA h2 h20 (a + 1 + j) := fun j hj => sa_trans (B19 j hj) (by rw [e20]; exact sa_sR (bl_ne hj (by decide)))
  obtain ⟨h21, e21⟩ : ∃ x, x = sR h20 (gq 5 0) a (some (a + 13)) := ⟨_, rfl⟩
  have Z21 : hZ h21 = a + 15 := by rw [e21, hZ_sR, Z20]
  have C21 : Ch h h21 (fun _ => False) := by rw [e21]; exact ch_sRn C20 (Nat.le_of_eq Z0)
  have O21_0 : OB h21 a 5 (up1 (up1 (up1 (up1 (up1 (up1 (up1 (fun _ => none) (gq 5 1) (some (a + 1))) (gq 5 2) (some (a + 10))) (gq 5 12) (some (a + 11))) (gq 5 13) (some (a + 12))) (gq 5 7) (some (X + 1))) (gq 5 8) (some (X + 3))) (gq 5 0) (some (a + 13))) (up1 (up1 (up1 (fun _ => 0) (gq 5 3) 1) (gq 5 4) 0) (gq 5 6) (Int32.ofNat n)) := by rw [e21]; exact ob_sRh O20_0
  have O21_13 : OB h21 (a + 13) 1 (up1 (up1 (fun _ => none) (gq 1 5) (some (a + 14))) (gq 1 3) (some (X + 6))) (up1 (up1 (fun _ => 0) (gq 1 1) (-1)) (gq 1 4) (-1)) := by rw [e21]; exact ob_sRn (ne_0l (by decide)) O20_13
  have A21_10 : AQ h21 (a + 10) 11 1201 := by rw [e21]; exact aq_sR A20_10
  have A21_11 : AQ h21 (a + 11) 11 5 := by rw [e21]; exact aq_sR A20_11
  have A21_12 : AQ h21 (a + 12) 11 5 := by rw [e21]; exact aq_sR A20_12
  have A21_14 : AQ h21 (a + 14) 14 1201 := by rw [e21]; exact aq_sR A20_14
  have B21 : ∀ j, j ≤ 8 → SA h2 h21 (a + 1 + j) := fun j hj => sa_trans (B20 j hj) (by rw [e21]; exact sa_sR (bl_0 (by decide)))
  refine ⟨h21, ?_, C21, Z21, ⟨⟨O21_0.1, sw_sa B21 W, A21_10.1, A21_11.1, A21_12.1, O21_13.1, A21_14.1⟩, (O21_0.2.1 (gq 5 0)).trans (by simp [up1, gq]), (O21_0.2.1 (gq 5 1)).trans (by simp [up1, gq]), (O21_0.2.1 (gq 5 2)).trans (by simp [up1, gq]), (O21_0.2.1 (gq 5 7)).trans (by simp [up1, gq]), (O21_0.2.1 (gq 5 8)).trans (by simp [up1, gq]), (O21_0.2.1 (gq 5 12)).trans (by simp [up1, gq]), (O21_0.2.1 (gq 5 13)).trans (by simp [up1, gq]), (O21_13.2.1 (gq 1 5)).trans (by simp [up1, gq]), (O21_0.2.2 (gq 5 6)).trans (by simp [up1, gq])⟩, ⟨(O21_0.2.2 (gq 5 3)).trans (by simp [up1, gq]), (O21_0.2.2 (gq 5 4)).trans (by simp [up1, gq]), (O21_0.2.2 (gq 5 5)).trans (by simp [up1, gq]), (O21_0.2.2 (gq 5 10)).trans (by simp [up1, gq]), (O21_0.2.2 (gq 5 11)).trans (by simp [up1, gq]), (O21_13.2.2 (gq 1 0)).trans (by simp [up1, gq]), (O21_13.2.2 (gq 1 1)).trans (by simp [up1, gq]), (O21_13.2.2 (gq 1 2)).trans (by simp [up1, gq]), (O21_13.2.2 (gq 1 4)).trans (by simp [up1, gq])⟩, ⟨A21_11.2.1, A21_12.2.1⟩, (O21_13.2.1 (gq 1 3)).trans (by simp [up1, gq]), sc_sa B21 Q⟩
  rw [← e1]
  unfold fX5_init nwO fX1_init
  try rw [Z1]
  rw [bd_some, c7i Z1, bd2_some]
  rw [← e2]
  try rw [Z2]
  rw [pR_k O2_0.1, bd_some]
  rw [← e3]
  try rw [Z3]
  rw [show mkA h3 11 (1201 : Int32) 1201 = some (nA h3 11 1201) from mkA_lit (by decide), bd_some]
  rw [← e4]
  try rw [Z4]
  rw [pR_k O4_0.1, bd_some]
  rw [← e5]
  try rw [Z5]
  rw [pZ_k O5_0.1 (by decide), bd_some]
  rw [← e6]
  try rw [Z6]
  rw [pI_k O6_0.1, bd_some]
  rw [← e7]
  try rw [Z7]
  rw [show mkA h7 11 (5 : Int32) 5 = some (nA h7 11 5) from mkA_lit (by decide), bd_some]
  rw [← e8]
  try rw [Z8]
  rw [pR_k O8_0.1, bd_some]
  rw [← e9]
  try rw [Z9]
  rw [show mkA h9 11 (5 : Int32) 5 = some (nA h9 11 5) from mkA_lit (by decide), bd_some]
  rw [← e10]
  try rw [Z10]
  rw [pR_k O10_0.1, bd_some]
  rw [← e11]
  try rw [Z11]
  rw [pI_k O11_0.1, bd_some]
  rw [← e12]
  try rw [Z12]
  rw [pR_k O12_0.1, bd_some]
  rw [← e13]
  try rw [Z13]
  rw [pR_k O13_0.1, bd_some]
  rw [← e14]
  try rw [Z14]
  rw [bd_some]
  rw [← e15]
  try rw [Z15]
  rw [pI_k O15_13.1, bd_some]
  rw [← e16]
  try rw [Z16]
  rw [pI_k O16_13.1, bd_some]
  rw [← e17]
  try rw [Z17]
  rw [show mkA h17 14 (1201 : Int32) 1201 = some (nA h17 14 1201) from mkA_lit (by decide), bd_some]
  rw [← e18]
  try rw [Z18]
  rw [pR_k O18_13.1, bd_some]
  rw [← e19]
  try rw [Z19]
  rw [pR_k O19_13.1, bd_some]
  rw [← e20]
  try rw [Z20]
  rw [bd2_some]
  rw [pR_k O20_0.1, bd_some]
  rw [← e21]
  try rw [Z21]
/-- what stands before the nodes -/
def BF (X : Nat) (h : Hp) : Prop := (hK h X = some (9, 0) ∧ hK h (X + 1) = some (3, 0) ∧ hK h (X + 2) = some (15, 3000) ∧ hK h (X + 3) = some (8, 0) ∧ hK h (X + 4) = some (11, 1024) ∧ hK h (X + 5) = some (14, 1201) ∧ hK h (X + 16) = some (16, 5)) ∧ (hR h (gq 9 0) X = some (X + 16) ∧ hR h (gq 3 0) (X + 1) = some (X + 2) ∧ hR h (gq 8 0) (X + 3) = some (X + 4) ∧ hR h (gq 8 1) (X + 3) = some (X + 5)) ∧ (hI h (gq 9 3) X = 0 ∧ hI h (gq 9 4) X = 0 ∧ hI h (gq 9 5) X = 0 ∧ hI h (gq 9 6) X = 0) ∧ (hI h (gq 3 1) (X + 1) = 0 ∧ hI h (gq 3 2) (X + 1) = 0 ∧ hI h (gq 8 2) (X + 3) = 0) ∧ ((∀ i, aI h (X + 4) i = 0) ∧ ∀ i, aR h (X + 5) i = none) ∧ hK h (X + 6) = some (6, 0) ∧ hI h (gq 6 1) (X + 6) = 0 ∧ hI h (gq 6 2) (X + 6) = 0 ∧ hR h (gq 6 0) (X + 6) = some (X + 7) ∧ SW (X + 7) h ∧ SC (rdS (X + 7) h) pZero
theorem bf_sa {X : Nat} {h h' : Hp} (s : ∀ b, X ≤ b → b ≤ X + 15 → SA h h' b) (k : hK h' (X + 16) = hK h (X + 16)) (w : BF X h) : BF X h' := by
  obtain ⟨⟨k0, k1, k2, k3, k4, k5, k6⟩, ⟨r1, r2, r3, r4⟩, ⟨m1, m2, m3, m4⟩, ⟨i1, i2, i3⟩, ⟨a1, a2⟩, p1, p2, p3, p4, p5, p6⟩ := w
  have t := fun c (hc : c ≤ 15) => s (X + c) (by omega) (by omega)
  have t0 := s X (by omega) (by omega)
  exact ⟨⟨t0.1.trans k0, (t 1 (by omega)).1.trans k1, (t 2 (by omega)).1.trans k2, (t 3 (by omega)).1.trans k3, (t 4 (by omega)).1.trans k4, (t 5 (by omega)).1.trans k5, k.trans k6⟩, ⟨(t0.2.2.2.1 _).trans r1, ((t 1 (by omega)).2.2.2.1 _).trans r2, ((t 3 (by omega)).2.2.2.1 _).trans r3, ((t 3 (by omega)).2.2.2.1 _).trans r4⟩, ⟨(t0.2.1 _).trans m1, (t0.2.1 _).trans m2, (t0.2.1 _).trans m3, (t0.2.1 _).trans m4⟩, ⟨((t 1 (by omega)).2.1 _).trans i1, ((t 1 (by omega)).2.1 _).trans i2, ((t 3 (by omega)).2.1 _).trans i3⟩, ⟨fun i => by rw [(t 4 (by omega)).2.2.2.2.1]; exact a1 i, fun i => by rw [(t 5 (by omega)).2.2.2.2.2.2]; exact a2 i⟩, (t 6 (by omega)).1.trans p1, ((t 6 (by omega)).2.1 _).trans p2, ((t 6 (by omega)).2.1 _).trans p3, ((t 6 (by omega)).2.2.2.1 _).trans p4, sw_sa (fun j hj => s _ (by omega) (by omega)) p5, sc_sa (fun j hj => s _ (by omega) (by omega)) p6⟩
theorem c_base {X : Nat} {h : Hp} (Z0 : hZ h = X) : ∃ h', fX9_init X (nO h 9) = fX9_init_48 8 X (X + 1) (X + 3) (X + 6) (0 : Int32) h' ∧ hZ h' = X + 17 ∧ BF X h' := by
  obtain ⟨h1, e1⟩ : ∃ x, x = nO h 9 := ⟨_, rfl⟩
  have Z1 : hZ h1 = X + 1 := by rw [e1, hZ_nO, Z0]
  have O1_0 : OB h1 X 9 (fun _ => none) (fun _ => 0) := by rw [e1]; exact ob_new Z0
  obtain ⟨h2, e2⟩ : ∃ x, x = nO h1 3 := ⟨_, rfl⟩
  have Z2 : hZ h2 = X + 2 := by rw [e2, hZ_nO, Z1]
  have O2_0 : OB h2 X 9 (fun _ => none) (fun _ => 0) := by rw [e2]; exact ob_nO Z1 (ne_0r (by decide)) O1_0
  have O2_1 : OB h2 (X + 1) 3 (fun _ => none) (fun _ => 0) := by rw [e2]; exact ob_new Z1
  obtain ⟨h3, e3⟩ : ∃ x, x = nA h2 15 3000 := ⟨_, rfl⟩
  have Z3 : hZ h3 = X + 3 := by rw [e3, hZ_nA, Z2]
  have O3_0 : OB h3 X 9 (fun _ => none) (fun _ => 0) := by rw [e3]; exact ob_nA Z2 (ne_0r (by decide)) O2_0
  have O3_1 : OB h3 (X + 1) 3 (fun _ => none) (fun _ => 0) := by rw [e3]; exact ob_nA Z2 (ne_off (by decide)) O2_1
  have A3_2 : AQ h3 (X + 2) 15 3000 := by rw [e3]; exact aq_new Z2
  obtain ⟨h4, e4⟩ : ∃ x, x = sR h3 (gq 3 0) (X + 1) (some (X + 2)) := ⟨_, rfl⟩
  have Z4 : hZ h4 = X + 3 := by rw [e4, hZ_sR, Z3]
  have O4_0 : OB h4 X 9 (fun _ => none) (fun _ => 0) := by rw [e4]; exact ob_sRn (ne_0r (by decide)) O3_0
  have O4_1 : OB h4 (X + 1) 3 (up1 (fun _ => none) (gq 3 0) (some (X + 2))) (fun _ => 0) := by rw [e4]; exact ob_sRh O3_1
  have A4_2 : AQ h4 (X + 2) 15 3000 := by rw [e4]; exact aq_sR A3_2
  obtain ⟨h5, e5⟩ : ∃ x, x = nO h4 8 := ⟨_, rfl⟩
  have Z5 : hZ h5 = X + 4 := by rw [e5, hZ_nO, Z4]
  have O5_0 : OB h5 X 9 (fun _ => none) (fun _ => 0) := by rw [e5]; exact ob_nO Z4 (ne_0r (by decide)) O4_0
  have O5_1 : OB h5 (X + 1) 3 (up1 (fun _ => none) (gq 3 0) (some (X + 2))) (fun _ => 0) := by rw [e5]; exact ob_nO Z4 (ne_off (by decide)) O4_1
  have A5_2 : AQ h5 (X + 2) 15 3000 := by rw [e5]; exact aq_nO Z4 (ne_off (by decide)) A4_2
  have O5_3 : OB h5 (X + 3) 8 (fun _ => none) (fun _ => 0) := by rw [e5]; exact ob_new Z4
  obtain ⟨h6, e6⟩ : ∃ x, x = nA h5 11 1024 := ⟨_, rfl⟩
  have Z6 : hZ h6 = X + 5 := by rw [e6, hZ_nA, Z5]
  have O6_0 : OB h6 X 9 (fun _ => none) (fun _ => 0) := by rw [e6]; exact ob_nA Z5 (ne_0r (by decide)) O5_0
  have O6_1 : OB h6 (X + 1) 3 (up1 (fun _ => none) (gq 3 0) (some (X + 2))) (fun _ => 0) := by rw [e6]; exact ob_nA Z5 (ne_off (by decide)) O5_1
  have O6_3 : OB h6 (X + 3) 8 (fun _ => none) (fun _ => 0) := by rw [e6]; exact ob_nA Z5 (ne_off (by decide)) O5_3
  have A6_2 : AQ h6 (X + 2) 15 3000 := by rw [e6]; exact aq_nA Z5 (ne_off (by decide)) A5_2
  have A6_4 : AQ h6 (X + 4) 11 1024 := by rw [e6]; exact aq_new Z5
  obtain ⟨h7, e7⟩ : ∃ x, x = sR h6 (gq 8 0) (X + 3) (some (X + 4)) := ⟨_, rfl⟩
  have Z7 : hZ h7 = X + 5 := by rw [e7, hZ_sR, Z6]
  have O7_0 : OB h7 X 9 (fun _ => none) (fun _ => 0) := by rw [e7]; exact ob_sRn (ne_0r (by decide)) O6_0
  have O7_1 : OB h7 (X + 1) 3 (up1 (fun _ => none) (gq 3 0) (some (X + 2))) (fun _ => 0) := by rw [e7]; exact ob_sRn (ne_off (by decide)) O6_1
  have O7_3 : OB h7 (X + 3) 8 (up1 (fun _ => none) (gq 8 0) (some (X + 4))) (fun _ => 0) := by rw [e7]; exact ob_sRh O6_3
  have A7_2 : AQ h7 (X + 2) 15 3000 := by rw [e7]; exact aq_sR A6_2
  have A7_4 : AQ h7 (X + 4) 11 1024 := by rw [e7]; exact aq_sR A6_4
  obtain ⟨h8, e8⟩ : ∃ x, x = nA h7 14 1201 := ⟨_, rfl⟩
  have Z8 : hZ h8 = X + 6 := by rw [e8, hZ_nA, Z7]
  have O8_0 : OB h8 X 9 (fun _ => none) (fun _ => 0) := by rw [e8]; exact ob_nA Z7 (ne_0r (by decide)) O7_0
  have O8_1 : OB h8 (X + 1) 3 (up1 (fun _ => none) (gq 3 0) (some (X + 2))) (fun _ => 0) := by rw [e8]; exact ob_nA Z7 (ne_off (by decide)) O7_1
  have O8_3 : OB h8 (X + 3) 8 (up1 (fun _ => none) (gq 8 0) (some (X + 4))) (fun _ => 0) := by rw [e8]; exact ob_nA Z7 (ne_off (by decide)) O7_3
  have A8_2 : AQ h8 (X + 2) 15 3000 := by rw [e8]; exact aq_nA Z7 (ne_off (by decide)) A7_2
  have A8_4 : AQ h8 (X + 4) 11 1024 := by rw [e8]; exact aq_nA Z7 (ne_off (by decide)) A7_4
  have A8_5 : AQ h8 (X + 5) 14 1201 := by rw [e8]; exact aq_new Z7
  obtain ⟨h9, e9⟩ : ∃ x, x = sR h8 (gq 8 1) (X + 3) (some (X + 5)) := ⟨_, rfl⟩
  have Z9 : hZ h9 = X + 6 := by rw [e9, hZ_sR, Z8]
  have O9_0 : OB h9 X 9 (fun _ => none) (fun _ => 0) := by rw [e9]; exact ob_sRn (ne_0r (by decide)) O8_0
  have O9_1 : OB h9 (X + 1) 3 (up1 (fun _ => none) (gq 3 0) (some (X + 2))) (fun _ => 0) := by rw [e9]; exact ob_sRn (ne_off (by decide)) O8_1
  have O9_3 : OB h9 (X + 3) 8 (up1 (up1 (fun _ => none) (gq 8 0) (some (X + 4))) (gq 8 1) (some (X + 5))) (fun _ => 0) := by rw [e9]; exact ob_sRh O8_3
  have A9_2 : AQ h9 (X + 2) 15 3000 := by rw [e9]; exact aq_sR A8_2
  have A9_4 : AQ h9 (X + 4) 11 1024 := by rw [e9]; exact aq_sR A8_4
  have A9_5 : AQ h9 (X + 5) 14 1201 := by rw [e9]; exact aq_sR A8_5
  obtain ⟨h10, e10⟩ : ∃ x, x = nO h9 6 := ⟨_, rfl⟩
  have Z10 : hZ h10 = X + 7 := by rw [e10, hZ_nO, Z9]
  have O10_0 : OB h10 X 9 (fun _ => none) (fun _ => 0) := by rw [e10]; exact ob_nO Z9 (ne_0r (by decide)) O9_0
  have O10_1 : OB h10 (X + 1) 3 (up1 (fun _ => none) (gq 3 0) (some (X + 2))) (fun _ => 0) := by rw [e10]; exact ob_nO Z9 (ne_off (by decide)) O9_1
  have O10_3 : OB h10 (X + 3) 8 (up1 (up1 (fun _ => none) (gq 8 0) (some (X + 4))) (gq 8 1) (some (X + 5))) (fun _ => 0) := by rw [e10]; exact ob_nO Z9 (ne_off (by decide)) O9_3
  have A10_2 : AQ h10 (X + 2) 15 3000 := by rw [e10]; exact aq_nO Z9 (ne_off (by decide)) A9_2
  have A10_4 : AQ h10 (X + 4) 11 1024 := by rw [e10]; exact aq_nO Z9 (ne_off (by decide)) A9_4
  have A10_5 : AQ h10 (X + 5) 14 1201 := by rw [e10]; exact aq_nO Z9 (ne_off (by decide)) A9_5
  have O10_6 : OB h10 (X + 6) 6 (fun _ => none) (fun _ => 0) := by rw [e10]; exact ob_new Z9
  obtain ⟨h11, e11⟩ : ∃ x, x = nS h10 := ⟨_, rfl⟩
  have Z11 : hZ h11 = X + 16 := by rw [e11, z9, Z10]
  have O11_0 : OB h11 X 9 (fun _ => none) (fun _ => 0) := by rw [e11]; exact ob_sa ((ch_nS h10).2 _ (by rw [Z10]; exact lt_x0 (by decide)) id) O10_0
  have O11_1 : OB h11 (X + 1) 3 (up1 (fun _ => none) (gq 3 0) (some (X + 2))) (fun _ => 0) := by rw [e11]; exact ob_sa ((ch_nS h10).2 _ (by rw [Z10]; exact lt_off (by decide)) id) O10_1
  have O11_3 : OB h11 (X + 3) 8 (up1 (up1 (fun _ => none) (gq 8 0) (some (X + 4))) (gq 8 1) (some (X + 5))) (fun _ => 0) := by rw [e11]; exact ob_sa ((ch_nS h10).2 _ (by rw [Z10]; exact lt_off (by decide)) id) O10_3
  have O11_6 : OB h11 (X + 6) 6 (fun _ => none) (fun _ => 0) := by rw [e11]; exact ob_sa ((ch_nS h10).2 _ (by rw [Z10]; exact lt_off (by decide)) id) O10_6
  have A11_2 : AQ h11 (X + 2) 15 3000 := by rw [e11]; exact aq_sa ((ch_nS h10).2 _ (by rw [Z10]; exact lt_off (by decide)) id) A10_2
  have A11_4 : AQ h11 (X + 4) 11 1024 := by rw [e11]; exact aq_sa ((ch_nS h10).2 _ (by rw [Z10]; exact lt_off (by decide)) id) A10_4
  have A11_5 : AQ h11 (X + 5) 14 1201 := by rw [e11]; exact aq_sa ((ch_nS h10).2 _ (by rw [Z10]; exact lt_off (by decide)) id) A10_5
  have W : SW (X + 7) h11 := by have := sw_nS h10; rw [Z10, ← e11] at this; exact this
  have Q : SC (rdS (X + 7) h11) pZero := by have := sc_nS h10; rw [Z10, ← e11] at this; exact this
  have B11 : ∀ j, j ≤ 8 → SA h11 h11 (X + 7 + j) := fun j _ => sa_refl _ _
  obtain ⟨h12, e12⟩ : ∃ x, x = sR h11 (gq 6 0) (X + 6) (some (X + 7)) := ⟨_, rfl⟩
  have Z12 : hZ h12 = X + 16 := by rw [e12, hZ_sR, Z11]
  have O12_0 : OB h12 X 9 (fun _ => none) (fun _ => 0) := by rw [e12]; exact ob_sRn (ne_0r (by decide)) O11_0
  have O12_1 : OB h12 (X + 1) 3 (up1 (fun _ => none) (gq 3 0) (some (X + 2))) (fun _ => 0) := by rw [e12]; exact ob_sRn (ne_off (by decide)) O11_1
  have O12_3 : OB h12 (X + 3) 8 (up1 (up1 (fun _ => none) (gq 8 0) (some (X + 4))) (gq 8 1) (some (X + 5))) (fun _ => 0) := by rw [e12]; exact ob_sRn (ne_off (by decide)) O11_3
  have O12_6 : OB h12 (X + 6) 6 (up1 (fun _ => none) (gq 6 0) (some (X + 7))) (fun _ => 0) := by rw [e12]; exact ob_sRh O11_6
  have A12_2 : AQ h12 (X + 2) 15 3000 := by rw [e12]; exact aq_sR A11_2
  have A12_4 : AQ h12 (X + 4) 11 1024 := by rw [e12]; exact aq_sR A11_4
  have A12_5 : AQ h12 (X + 5) 14 1201 := by rw [e12]; exact aq_sR A11_5
  have B12 : ∀ j, j ≤ 8 → SA h11 h12 (X + 7 + j) := fun j hj => sa_trans (B11 j hj) (by rw [e12]; exact sa_sR (bl_ne hj (by decide)))
  obtain ⟨h13, e13⟩ : ∃ x, x = sI h12 (gq 6 1) (X + 6) 0 := ⟨_, rfl⟩
  have Z13 : hZ h13 = X + 16 := by rw [e13, hZ_sI, Z12]
  have O13_0 : OB h13 X 9 (fun _ => none) (fun _ => 0) := by rw [e13]; exact ob_sIn (ne_0r (by decide)) O12_0
  have O13_1 : OB h13 (X + 1) 3 (up1 (fun _ => none) (gq 3 0) (some (X + 2))) (fun _ => 0) := by rw [e13]; exact ob_sIn (ne_off (by decide)) O12_1
  have O13_3 : OB h13 (X + 3) 8 (up1 (up1 (fun _ => none) (gq 8 0) (some (X + 4))) (gq 8 1) (some (X + 5))) (fun _ => 0) := by rw [e13]; exact ob_sIn (ne_off (by decide)) O12_3
  have O13_6 : OB h13 (X + 6) 6 (up1 (fun _ => none) (gq 6 0) (some (X + 7))) (up1 (fun _ => 0) (gq 6 1) 0) := by rw [e13]; exact ob_sIh O12_6
  have A13_2 : AQ h13 (X + 2) 15 3000 := by rw [e13]; exact aq_sI A12_2
  have A13_4 : AQ h13 (X + 4) 11 1024 := by rw [e13]; exact aq_sI A12_4
  have A13_5 : AQ h13 (X + 5) 14 1201 := by rw [e13]; exact aq_sI A12_5
  have B13 : ∀ j, j ≤ 8 → SA h11 h13 (X + 7 + j) := fun j hj => sa_trans (B12 j hj) (by rw [e13]; exact sa_sI (bl_ne hj (by decide)))
  obtain ⟨h14, e14⟩ : ∃ x, x = sI h13 (gq 6 2) (X + 6) 0 := ⟨_, rfl⟩
  have Z14 : hZ h14 = X + 16 := by rw [e14, hZ_sI, Z13]
  have O14_0 : OB h14 X 9 (fun _ => none) (fun _ => 0) := by rw [e14]; exact ob_sIn (ne_0r (by decide)) O13_0
  have O14_1 : OB h14 (X + 1) 3 (up1 (fun _ => none) (gq 3 0) (some (X + 2))) (fun _ => 0) := by rw [e14]; exact ob_sIn (ne_off (by decide)) O13_1
  have O14_3 : OB h14 (X + 3) 8 (up1 (up1 (fun _ => none) (gq 8 0) (some (X + 4))) (gq 8 1) (some (X + 5))) (fun _ => 0) := by rw [e14]; exact ob_sIn (ne_off (by decide)) O13_3
  have O14_6 : OB h14 (X + 6) 6 (up1 (fun _ => none) (gq 6 0) (some (X + 7))) (up1 (up1 (fun _ => 0) (gq 6 1) 0) (gq 6 2) 0) := by rw [e14]; exact ob_sIh O13_6
  have A14_2 : AQ h14 (X + 2) 15 3000 := by rw [e14]; exact aq_sI A13_2
  have A14_4 : AQ h14 (X + 4) 11 1024 := by rw [e14]; exact aq_sI A13_4
  have A14_5 : AQ h14 (X + 5) 14 1201 := by rw [e14]; exact aq_sI A13_5
  have B14 : ∀ j, j ≤ 8 → SA h11 h14 (X + 7 + j) := fun j hj => sa_trans (B13 j hj) (by rw [e14]; exact sa_sI (bl_ne hj (by decide)))
  obtain ⟨h15, e15⟩ : ∃ x, x = nA h14 16 5 := ⟨_, rfl⟩
  have Z15 : hZ h15 = X + 17 := by rw [e15, hZ_nA, Z14]
  have O15_0 : OB h15 X 9 (fun _ => none) (fun _ => 0) := by rw [e15]; exact ob_nA Z14 (ne_0r (by decide)) O14_0
  have O15_1 : OB h15 (X + 1) 3 (up1 (fun _ => none) (gq 3 0) (some (X + 2))) (fun _ => 0) := by rw [e15]; exact ob_nA Z14 (ne_off (by decide)) O14_1
  have O15_3 : OB h15 (X + 3) 8 (up1 (up1 (fun _ => none) (gq 8 0) (some (X + 4))) (gq 8 1) (some (X + 5))) (fun _ => 0) := by rw [e15]; exact ob_nA Z14 (ne_off (by decide)) O14_3
  have O15_6 : OB h15 (X + 6) 6 (up1 (fun _ => none) (gq 6 0) (some (X + 7))) (up1 (up1 (fun _ => 0) (gq 6 1) 0) (gq 6 2) 0) := by rw [e15]; exact ob_nA Z14 (ne_off (by decide)) O14_6
  have A15_2 : AQ h15 (X + 2) 15 3000 := by rw [e15]; exact aq_nA Z14 (ne_off (by decide)) A14_2
  have A15_4 : AQ h15 (X + 4) 11 1024 := by rw [e15]; exact aq_nA Z14 (ne_off (by decide)) A14_4
  have A15_5 : AQ h15 (X + 5) 14 1201 := by rw [e15]; exact aq_nA Z14 (ne_off (by decide)) A14_5
  have B15 : ∀ j, j ≤ 8 → SA h11 h15 (X + 7 + j) := fun j hj => sa_trans (B14 j hj) (by rw [e15]; exact sa_nA (by rw [Z14]; exact bl_ne hj (by decide)))
  have A15_16 : AQ h15 (X + 16) 16 5 := by rw [e15]; exact aq_new Z14
  obtain ⟨h16, e16⟩ : ∃ x, x = sR h15 (gq 9 0) X (some (X + 16)) := ⟨_, rfl⟩
  have Z16 : hZ h16 = X + 17 := by rw [e16, hZ_sR, Z15]
  have O16_0 : OB h16 X 9 (up1 (fun _ => none) (gq 9 0) (some (X + 16))) (fun _ => 0) := by rw [e16]; exact ob_sRh O15_0
  have O16_1 : OB h16 (X + 1) 3 (up1 (fun _ => none) (gq 3 0) (some (X + 2))) (fun _ => 0) := by rw [e16]; exact ob_sRn (ne_0l (by decide)) O15_1
  have O16_3 : OB h16 (X + 3) 8 (up1 (up1 (fun _ => none) (gq 8 0) (some (X + 4))) (gq 8 1) (some (X + 5))) (fun _ => 0) := by rw [e16]; exact ob_sRn (ne_0l (by decide)) O15_3
  have O16_6 : OB h16 (X + 6) 6 (up1 (fun _ => none) (gq 6 0) (some (X + 7))) (up1 (up1 (fun _ => 0) (gq 6 1) 0) (gq 6 2) 0) := by rw [e16]; exact ob_sRn (ne_0l (by decide)) O15_6
  have A16_2 : AQ h16 (X + 2) 15 3000 := by rw [e16]; exact aq_sR A15_2
  have A16_4 : AQ h16 (X + 4) 11 1024 := by rw [e16]; exact aq_sR A15_4
  have A16_5 : AQ h16 (X + 5) 14 1201 := by rw [e16]; exact aq_sR A15_5
  have A16_16 : AQ h16 (X + 16) 16 5 := by rw [e16]; exact aq_sR A15_16
  have B16 : ∀ j, j ≤ 8 → SA h11 h16 (X + 7 + j) := fun j hj => sa_trans (B15 j hj) (by rw [e16]; exact sa_sR (bl_0 (by decide)))
  refine ⟨h16, ?_, Z16, ⟨O16_0.1, O16_1.1, A16_2.1, O16_3.1, A16_4.1, A16_5.1, A16_16.1⟩, ⟨(O16_0.2.1 (gq 9 0)).trans (by simp [up1, gq]), (O16_1.2.1 (gq 3 0)).trans (by simp [up1, gq]), (O16_3.2.1 (gq 8 0)).trans (by simp [up1, gq]), (O16_3.2.1 (gq 8 1)).trans (by simp [up1, gq])⟩, ⟨(O16_0.2.2 (gq 9 3)).trans (by simp [up1, gq]), (O16_0.2.2 (gq 9 4)).trans (by simp [up1, gq]), (O16_0.2.2 (gq 9 5)).trans (by simp [up1, gq]), (O16_0.2.2 (gq 9 6)).trans (by simp [up1, gq])⟩, ⟨(O16_1.2.2 (gq 3 1)).trans (by simp [up1, gq]), (O16_1.2.2 (gq 3 2)).trans (by simp [up1, gq]), (O16_3.2.2 (gq 8 2)).trans (by simp [up1, gq])⟩, ⟨A16_4.2.1, A16_5.2.2⟩, O16_6.1, (O16_6.2.2 (gq 6 1)).trans (by simp [up1, gq]), (O16_6.2.2 (gq 6 2)).trans (by simp [up1, gq]), (O16_6.2.1 (gq 6 0)).trans (by simp [up1, gq]), sw_sa B16 W, sc_sa B16 Q⟩
  rw [← e1]
  unfold fX9_init nwO fX3_init fX8_init fX6_init
  try rw [Z1]
  rw [bd_some]
  rw [← e2]
  try rw [Z2]
  rw [show mkA h2 15 (3000 : Int32) 3000 = some (nA h2 15 3000) from mkA_lit (by decide), bd_some]
  rw [← e3]
  try rw [Z3]
  rw [pR_k O3_1.1, bd_some]
  rw [← e4]
  try rw [Z4]
  rw [bd2_some]
  try rw [Z4]
  rw [bd_some]
  rw [← e5]
  try rw [Z5]
  rw [show mkA h5 11 (1024 : Int32) 1024 = some (nA h5 11 1024) from mkA_lit (by decide), bd_some]
  rw [← e6]
  try rw [Z6]
  rw [pR_k O6_3.1, bd_some]
  rw [← e7]
  try rw [Z7]
  rw [show mkA h7 14 (1201 : Int32) 1201 = some (nA h7 14 1201) from mkA_lit (by decide), bd_some]
  rw [← e8]
  try rw [Z8]
  rw [pR_k O8_3.1, bd_some]
  rw [← e9]
  try rw [Z9]
  rw [bd2_some]
  try rw [Z9]
  rw [bd_some]
  rw [← e10]
  try rw [Z10]
  rw [bd_some, c7i Z10, bd2_some]
  rw [← e11]
  try rw [Z11]
  rw [pR_k O11_6.1, bd_some]
  rw [← e12]
  try rw [Z12]
  rw [pI_k O12_6.1, bd_some]
  rw [← e13]
  try rw [Z13]
  rw [pI_k O13_6.1, bd_some]
  rw [← e14]
  try rw [Z14]
  rw [bd2_some]
  try rw [Z14]
  rw [show mkA h14 16 (5 : Int32) 5 = some (nA h14 16 5) from mkA_lit (by decide), bd_some]
  rw [← e15]
  try rw [Z15]
  rw [pR_k O15_0.1, bd_some]
  rw [← e16]
  try rw [Z16]
