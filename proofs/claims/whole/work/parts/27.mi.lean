/-! ===== what the reference's state keeps, with the ghosts of Raft ===== -/
def GH : Type := (Nat → Nat → Nat) × (Nat → Nat → Nat → Nat → Int32) × (Nat → Nat → Nat) × (Nat → Nat) × (Nat → Nat → Nat → Int32) × (Nat → Nat) × (Nat → Nat → Nat)
def gV (g : GH) : Nat → Nat → Nat := g.1
def gC (g : GH) : Nat → Nat → Nat → Nat → Int32 := g.2.1
def gN (g : GH) : Nat → Nat → Nat := g.2.2.1
def gD (g : GH) : Nat → Nat := g.2.2.2.1
def gE (g : GH) : Nat → Nat → Nat → Int32 := g.2.2.2.2.1
def gW (g : GH) : Nat → Nat := g.2.2.2.2.2.1
def gA (g : GH) : Nat → Nat → Nat := g.2.2.2.2.2.2
def lgM (s : MS) (n i : Nat) : Nat → Int32 := fun j => if i ≤ 1200 ∧ j < 8 then mA s 13 ((n * 1201 + i) * 8 + j) else 0
def crM (s : MS) (k i : Nat) : Nat → Int32 := fun j => if j < 8 then mA s 23 ((k * 4 + i) * 8 + j) else 0
def srM (s : MS) (w i : Nat) : Nat → Int32 := fun j => if i ≤ 1200 ∧ j < 8 then mA s 24 ((w * 1201 + i) * 8 + j) else 0
def teM (e : Nat → Int32) : Nat := (e 0).toNatClampNeg
def e0M : Nat → Int32 := fun _ => 0
def tmM (s : MS) (n : Nat) : Nat := (mA s 2 n).toNatClampNeg
def rlM (s : MS) (n : Nat) : Nat := (mA s 8 n).toNatClampNeg
def vsM (s : MS) (n w : Nat) : Prop := ((mA s 9 n).toNatClampNeg).testBit w = true
def lsM (s : MS) (n : Nat) : Nat := (mA s 5 n).toNatClampNeg
def bsM (s : MS) (n : Nat) : Nat := (mA s 4 n).toNatClampNeg
def cmM (s : MS) (n : Nat) : Nat := if mA s 1 n = 0 then (mA s 4 n).toNatClampNeg else (mA s 6 n).toNatClampNeg
def mtM (s : MS) (n m : Nat) : Nat := if m < 5 then (mA s 12 (5 * n + m)).toNatClampNeg else 0
def RM (s : MS) (g : GH) : Prop := RI teM e0M (tmM s) (rlM s) (vsM s) (lsM s) (lgM s) (cmM s) (bsM s) (mtM s) (gV g) (gC g) (gN g) (gD g) (gE g) (gW g) (gA g)
def GLe (g g' : GH) : Prop := GX (gV g) (gC g) (gN g) (gD g) (gE g) (gW g) (gA g) (gV g') (gC g') (gN g') (gD g') (gE g') (gW g') (gA g')
def CPM (g : GH) (x : Nat → Nat → Int32) (T k : Nat) : Prop := CPt teM (gE g) (gW g) (gA g) x T k
def isK (x : Int32) : Prop := 0 ≤ x ∧ x < 64
/-- a row that a command may have -/
def legalE (e : Nat → Int32) : Prop := 0 ≤ e 0 ∧ (e 1 = 0 ∨ (e 1 = 1 ∧ isK (e 2) ∧ 0 ≤ e 4 ∧ e 4 ≤ 8) ∨ (e 1 = 2 ∧ isK (e 2) ∧ isK (e 3)) ∨ (e 1 = 3 ∧ isK (e 2) ∧ isK (e 6) ∧ 0 ≤ e 3 ∧ e 3 ≤ 3 ∧ 0 ≤ e 4 ∧ e 4 ≤ 2) ∨ ((e 1 = 4 ∨ e 1 = 5 ∨ e 1 = 6) ∧ 1 ≤ e 2 ∧ e 2 ≤ 8) ∨ e 1 = 7 ∨ e 1 = 8)
/-- what message k tells; W snapshots were sent -/
def MB (s : MS) (g : GH) (W k t f o T : Nat) : Prop :=
  (t = 0 ∧ gV g f T = f + 1 ∧ mA s 19 k = Int32.ofNat (gN g f T) ∧ mA s 20 k = gC g f T (gN g f T) 0) ∨
  (t = 1 ∧ (mA s 19 k = 0 ∨ mA s 19 k = 1 ∧ gV g f T = o + 1)) ∨
  (t = 2 ∧ ∃ p c q, gD g T = f + 1 ∧ mA s 19 k = Int32.ofNat p ∧ mA s 20 k = gE g T p 0 ∧ mA s 21 k = Int32.ofNat c ∧ mA s 22 k = Int32.ofNat q ∧ c ≤ 4 ∧ 1 ≤ p + c ∧ p + c ≤ gW g T ∧ (∀ i, i < c → crM s k i = gE g T (p + 1 + i)) ∧ CPM g (gE g T) T q ∧ q ≤ gW g T) ∨
  (t = 3 ∧ ∃ i, mA s 19 k = Int32.ofNat i ∧ 1 ≤ i ∧ i ≤ gA g f T) ∨
  (t = 4 ∧ ∃ i, mA s 19 k = Int32.ofNat i ∧ i ≤ 1200) ∨
  (t = 5 ∧ ∃ b w, gD g T = f + 1 ∧ mA s 19 k = Int32.ofNat b ∧ mA s 20 k = gE g T b 0 ∧ mA s 25 k = Int32.ofNat w ∧ w < W ∧ 1 ≤ b ∧ b ≤ gW g T ∧ (∀ i, i ≤ b → srM s w i = gE g T i) ∧ CPM g (gE g T) T b)
def MsgOK (s : MS) (g : GH) (W B k : Nat) : Prop := ∃ t f o T, mA s 15 k = Int32.ofNat t ∧ mA s 16 k = Int32.ofNat f ∧ mA s 17 k = Int32.ofNat o ∧ mA s 18 k = Int32.ofNat T ∧ f < 5 ∧ o < 5 ∧ f ≠ o ∧ T ≤ B ∧ MB s g W k t f o T
/-- of node n -/
def NI (s : MS) (g : GH) (n : Nat) : Prop :=
  (mA s 1 n = 0 ∨ mA s 1 n = 1) ∧ 0 ≤ mA s 2 n ∧ 0 ≤ mA s 4 n ∧ 0 ≤ mA s 5 n ∧ 0 ≤ mA s 6 n ∧
  (mA s 8 n = 0 ∨ mA s 8 n = 1 ∨ mA s 8 n = 2) ∧ (mA s 1 n = 0 → mA s 8 n = 0) ∧
  mA s 3 n = (if gV g n (tmM s n) = 0 then -1 else Int32.ofNat (gV g n (tmM s n) - 1)) ∧
  (mA s 8 n = 1 → ∃ V, V < 32 ∧ mA s 9 n = Int32.ofNat V) ∧
  (mA s 8 n = 2 → 1 ≤ lsM s n ∧ ∀ m, m < 5 → ∃ p, mA s 11 (5 * n + m) = Int32.ofNat (p + 1) ∧ p ≤ lsM s n ∧ mA s 12 (5 * n + m) = Int32.ofNat (mtM s n m) ∧ mtM s n m ≤ p ∧ (mtM s n m = 0 ∨ p = mtM s n m))
/-- B bounds terms and logs, K messages, W snapshots -/
def MI (s : MS) (g : GH) (B K W : Nat) : Prop :=
  RM s g ∧ (∀ n, n < 5 → NI s g n) ∧ (∀ v, tmM s v ≤ B) ∧ (∀ T, gW g T ≤ B) ∧ (∀ w T, gV g w T ≤ 5) ∧ mF s 24 = Int32.ofNat K ∧ mF s 27 = Int32.ofNat W ∧ W ≤ 60 ∧ (∀ k, k < K → MsgOK s g W B k) ∧ (∀ T i, 1 ≤ i → i ≤ gW g T → legalE (gE g T i))
theorem cpm_mono {g g' : GH} (h : GLe g g') {x y : Nat → Nat → Int32} {T T' k : Nat} (hT : T ≤ T') (hx : Ag y x k) (hc : CPM g x T k) : CPM g' y T' k := cpt_mono teM h.1 h.2.1 h.2.2.1 hT hx hc
theorem gle_refl (g : GH) : GLe g g := gx_refl _ _ _ _ _ _ _
theorem gle_trans {g g' g'' : GH} (h : GLe g g') (k : GLe g' g'') : GLe g g'' := gx_trans h k
theorem msg_mono {s s' : MS} {g g' : GH} {K W W' B B' k : Nat} (h1 : ∀ x i, ((15 ≤ x ∧ x ≤ 22) ∨ x = 25) → i < K → mA s' x i = mA s x i) (h2 : ∀ i, i < K * 32 → mA s' 23 i = mA s 23 i) (h3 : ∀ i, i < W * 9608 → mA s' 24 i = mA s 24 i) (hW : W ≤ W') (hB : B ≤ B') (hg : GLe g g') (hk : k < K) (h : MsgOK s g W B k) : MsgOK s' g' W' B' k := by
  obtain ⟨t, f, o, T, a1, a2, a3, a4, a5, a6, a7, a8, m⟩ := h
  obtain ⟨g1, g2, g3, g4, g5, g6⟩ := hg
  have e := fun x (hx : (15 ≤ x ∧ x ≤ 22) ∨ x = 25) => h1 x k hx hk
  refine ⟨t, f, o, T, (e 15 (by decide)).trans a1, (e 16 (by decide)).trans a2, (e 17 (by decide)).trans a3, (e 18 (by decide)).trans a4, a5, a6, a7, by omega, ?_⟩
  rcases m with ⟨b1, b2, b3, b4⟩ | ⟨b1, b2⟩ | ⟨b1, p, c, q, b2, b3, b4, b5, b6, b7, b8, b9, b10, b11, b12⟩ | ⟨b1, i, b2, b3, b4⟩ | ⟨b1, i, b2, b3⟩ | ⟨b1, b, w, b2, b3, b4, b5, b6, b7, b8, b9, b10⟩
  · refine Or.inl ⟨b1, (g5 f T (by omega)).trans b2, ?_, ?_⟩
    · rw [e 19 (by decide), (g6 f T b2).2]; exact b3
    · rw [e 20 (by decide), (g6 f T b2).2, (g6 f T b2).1]; exact b4
  · refine Or.inr (Or.inl ⟨b1, ?_⟩)
    rw [e 19 (by decide)]
    exact b2.imp id (fun q => ⟨q.1, (g5 f T (by omega)).trans q.2⟩)
  · refine Or.inr (Or.inr (Or.inl ⟨b1, p, c, q, (g4 T (by omega)).trans b2, (e 19 (by decide)).trans b3, ?_, (e 21 (by decide)).trans b5, (e 22 (by decide)).trans b6, b7, b8, Nat.le_trans b9 (g1 T), fun i hi => ?_, cpt_mono teM g1 g2 g3 (Nat.le_refl _) (fun j hj => g2 T j (by omega)) b11, Nat.le_trans b12 (g1 T)⟩))
    · rw [e 20 (by decide), b4, g2 T p (by omega)]
    · rw [g2 T _ (by omega), ← b10 i hi]
      funext j
      unfold crM
      by_cases hj : j < 8
      · rw [if_pos hj, if_pos hj, h2 _ (by omega)]
      · rw [if_neg hj, if_neg hj]
  · exact Or.inr (Or.inr (Or.inr (Or.inl ⟨b1, i, (e 19 (by decide)).trans b2, b3, Nat.le_trans b4 (g3 f T)⟩)))
  · exact Or.inr (Or.inr (Or.inr (Or.inr (Or.inl ⟨b1, i, (e 19 (by decide)).trans b2, b3⟩))))
  · refine Or.inr (Or.inr (Or.inr (Or.inr (Or.inr ⟨b1, b, w, (g4 T (by omega)).trans b2, (e 19 (by decide)).trans b3, ?_, (e 25 (by decide)).trans b5, by omega, b7, Nat.le_trans b8 (g1 T), fun i hi => ?_, cpt_mono teM g1 g2 g3 (Nat.le_refl _) (fun j hj => g2 T j (by omega)) b10⟩))))
    · rw [e 20 (by decide), b4, g2 T b (by omega)]
    · rw [g2 T _ (by omega), ← b9 i hi]
      funext j
      unfold srM
      by_cases hj : i ≤ 1200 ∧ j < 8
      · rw [if_pos hj, if_pos hj, h3 _ (by omega)]
      · rw [if_neg hj, if_neg hj]
theorem rm_of {s : MS} {g : GH} {tm rl : Nat → Nat} {vs : Nat → Nat → Prop} {ls : Nat → Nat} {lg : Nat → Nat → Nat → Int32} {cm bs : Nat → Nat} {mt : Nat → Nat → Nat} (h : RI teM e0M tm rl vs ls lg cm bs mt (gV g) (gC g) (gN g) (gD g) (gE g) (gW g) (gA g)) (h1 : ∀ n, tmM s n = tm n) (h2 : ∀ n, rlM s n = rl n) (h3 : ∀ n w, vsM s n w = vs n w) (h4 : ∀ n, lsM s n = ls n) (h5 : ∀ n i, lgM s n i = lg n i) (h6 : ∀ n, cmM s n = cm n) (h7 : ∀ n, bsM s n = bs n) (h8 : ∀ n m, mtM s n m = mt n m) : RM s g := by
  unfold RM
  rw [funext h1, funext h2, (funext fun n => funext (h3 n) : vsM s = vs), funext h4, (funext fun n => funext (h5 n) : lgM s = lg), funext h6, funext h7, (funext fun n => funext (h8 n) : mtM s = mt)]
  exact h
/-- rows that Raft doesn't look at -/
theorem mi_frame {s s' : MS} {g : GH} {B K W : Nat} (h : MI s g B K W) (e : ∀ x i, x ≠ 7 → x ≠ 10 → x ≠ 14 → x < 26 → mA s' x i = mA s x i) (f1 : mF s' 24 = mF s 24) (f2 : mF s' 27 = mF s 27) : MI s' g B K W := by
  obtain ⟨r, n, b1, b2, b3, c1, c2, c3, m, l⟩ := h
  have t : ∀ n, tmM s' n = tmM s n := fun n => by unfold tmM; rw [e 2 n (by decide) (by decide) (by decide) (by decide)]
  have el : ∀ n, lsM s' n = lsM s n := fun n => by unfold lsM; rw [e 5 n (by decide) (by decide) (by decide) (by decide)]
  have em : ∀ n m, mtM s' n m = mtM s n m := fun n m => by unfold mtM; rw [e 12 _ (by decide) (by decide) (by decide) (by decide)]
  refine ⟨rm_of r t (fun n => ?_) (fun n w => ?_) el (fun n i => ?_) (fun n => ?_) (fun n => ?_) em, fun v hv => ?_, fun v => by rw [t]; exact b1 v, b2, b3, f1.trans c1, f2.trans c2, c3, fun k hk => ?_, l⟩
  · unfold rlM; rw [e 8 n (by decide) (by decide) (by decide) (by decide)]
  · unfold vsM; rw [e 9 n (by decide) (by decide) (by decide) (by decide)]
  · unfold lgM; funext j; rw [e 13 _ (by decide) (by decide) (by decide) (by decide)]
  · unfold cmM; rw [e 1 n (by decide) (by decide) (by decide) (by decide), e 4 n (by decide) (by decide) (by decide) (by decide), e 6 n (by decide) (by decide) (by decide) (by decide)]
  · unfold bsM; rw [e 4 n (by decide) (by decide) (by decide) (by decide)]
  · unfold NI
    simp only [t, el, em, e 1 v (by decide) (by decide) (by decide) (by decide), e 2 v (by decide) (by decide) (by decide) (by decide), e 3 v (by decide) (by decide) (by decide) (by decide), e 4 v (by decide) (by decide) (by decide) (by decide), e 5 v (by decide) (by decide) (by decide) (by decide), e 6 v (by decide) (by decide) (by decide) (by decide), e 8 v (by decide) (by decide) (by decide) (by decide), e 9 v (by decide) (by decide) (by decide) (by decide), e 11 _ (by decide) (by decide) (by decide) (by decide), e 12 _ (by decide) (by decide) (by decide) (by decide)]
    exact n v hv
  · exact msg_mono (K := K) (fun x i hx _ => e x i (by omega) (by omega) (by omega) (by omega)) (fun i _ => e 23 i (by decide) (by decide) (by decide) (by decide)) (fun i _ => e 24 i (by decide) (by decide) (by decide) (by decide)) (Nat.le_refl _) (Nat.le_refl _) (gle_refl g) hk (m k hk)
theorem mi_pow {s : MS} {g : GH} {B K W : Nat} (n : Nat) (h : MI s g B K W) : MI (oP n s) g B K W := mi_frame h (fun x i _ hx _ _ => mA_oP n s i hx) (mF_oP _ _ _) (mF_oP _ _ _)
theorem mi_B {s : MS} {g : GH} {B B' K W : Nat} (hB : B ≤ B') (h : MI s g B K W) : MI s g B' K W := by
  obtain ⟨r, n, b1, b2, b3, c1, c2, c3, m, l⟩ := h
  exact ⟨r, n, fun v => Nat.le_trans (b1 v) hB, fun T => Nat.le_trans (b2 T) hB, b3, c1, c2, c3, fun k hk => msg_mono (fun _ _ _ _ => rfl) (fun _ _ => rfl) (fun _ _ => rfl) (Nat.le_refl _) hB (gle_refl g) hk (m k hk), l⟩
