/-! ===== logs grow ===== -/
def rw8 (r : Nat → Int32) : Nat → Int32 := fun j => if j < 8 then r j else 0
theorem lg_oE {n idx : Nat} (hi : idx ≤ 1200) (r : Nat → Int32) (s : MS) (w i : Nat) : lgM (oE n idx r s) w i = up2 (lgM s) n idx (rw8 r) w i := by
  funext j
  unfold lgM up2 rw8
  rw [mA_oE]
  by_cases e : w = n ∧ i = idx
  · obtain ⟨e1, e2⟩ := e
    subst e1 e2
    rw [if_pos (show w = w ∧ i = i from ⟨rfl, rfl⟩)]
    by_cases hj : j < 8
    · rw [if_pos ⟨hi, hj⟩, if_pos hj, if_pos ⟨rfl, by omega, by omega⟩, Nat.add_sub_cancel_left]
    · rw [if_neg (fun q => hj q.2), if_neg hj]
  · rw [if_neg e]
    by_cases hj : i ≤ 1200 ∧ j < 8
    · rw [if_pos hj, if_neg (by omega), if_neg (by omega)]; exact (if_pos hj).symm
    · rw [if_neg hj]; exact (if_neg hj).symm
theorem ls_oE {n idx : Nat} (hi : idx ≤ 1200) (r : Nat → Int32) (s : MS) (w : Nat) : lsM (oE n idx r s) w = up1 (lsM s) n idx w := by
  unfold lsM up1
  rw [mA_oE, if_neg (by omega)]
  by_cases e : w = n
  · rw [if_pos ⟨rfl, e⟩, if_pos e]; exact io_cl (by omega)
  · rw [if_neg (fun q => e q.2), if_neg e]
theorem mA_oEx {n idx x : Nat} (r : Nat → Int32) (s : MS) (i : Nat) (h : x ≠ 13) (h5 : x ≠ 5 ∨ i ≠ n) : mA (oE n idx r s) x i = mA s x i := by
  rw [mA_oE, if_neg (fun q => h q.1), if_neg (by omega)]
def hP (n : Nat) (e : Nat → Int32) (s : MS) (g : GH) : GH := (gV g, gC g, gN g, gD g, up2 (gE g) (tmM s n) (lsM s n + 1) (rw8 e), up1 (gW g) (tmM s n) (lsM s n + 1), up2 (gA g) n (tmM s n) (lsM s n + 1))
theorem rm_push {s : MS} {g : GH} {n : Nat} {e : Nat → Int32} (r : RM s g) (h2 : rlM s n = 2) (hl : lsM s n + 1 ≤ 1200) (he : teM (rw8 e) = tmM s n) : RM (oE n (lsM s n + 1) e s) (hP n e s g) ∧ GLe g (hP n e s g) := by
  have r1 := ri_push r (v := n) h2 he
  refine ⟨rm_of (g := hP n e s g) r1.1 (fun w => ?_) (fun w => ?_) (fun w x => ?_) (ls_oE hl e s) (lg_oE hl e s) (fun w => ?_) (fun w => ?_) (fun w x => ?_), r1.2⟩
  · unfold tmM; rw [mA_oEx _ _ _ (by omega) (by omega)]
  · unfold rlM; rw [mA_oEx _ _ _ (by omega) (by omega)]
  · unfold vsM; rw [mA_oEx _ _ _ (by omega) (by omega)]
  · unfold cmM; rw [mA_oEx _ _ _ (by omega) (by omega), mA_oEx _ _ _ (by omega) (by omega), mA_oEx _ _ _ (by omega) (by omega)]
  · unfold bsM; rw [mA_oEx _ _ _ (by omega) (by omega)]
  · unfold mtM; rw [mA_oEx _ _ _ (by omega) (by omega)]
theorem te_rw (e : Nat → Int32) : teM (rw8 e) = (e 0).toNatClampNeg := rfl
theorem hP_legal {s : MS} {g : GH} {B K W n : Nat} {e : Nat → Int32} (hl : ∀ T i, 1 ≤ i → i ≤ gW g T → legalE (gE g T i)) (hls : lsM s n = gW g (tmM s n)) (he : legalE (rw8 e)) : ∀ T i, 1 ≤ i → i ≤ gW (hP n e s g) T → legalE (gE (hP n e s g) T i) := by
  intro T i h1 h2
  show legalE (up2 (gE g) (tmM s n) (lsM s n + 1) (rw8 e) T i)
  have h2' : i ≤ up1 (gW g) (tmM s n) (lsM s n + 1) T := h2
  by_cases eT : T = tmM s n
  · subst eT
    rw [up1_eq] at h2'
    by_cases ei : i = lsM s n + 1
    · subst ei; rw [up2_eq]; exact he
    · rw [up2_n2 _ _ _ ei]; exact hl _ i h1 (by omega)
  · rw [up1_ne _ _ eT] at h2'
    rw [up2_n1 _ _ _ eT]; exact hl T i h1 h2'
theorem hP_W {s : MS} {g : GH} {B n : Nat} {e : Nat → Int32} (b2 : ∀ T, gW g T ≤ B) (hB : lsM s n + 1 ≤ B) : ∀ T, gW (hP n e s g) T ≤ B := fun T => by
  show up1 (gW g) (tmM s n) (lsM s n + 1) T ≤ B
  unfold up1; split
  · exact hB
  · exact b2 T
theorem ni_oE {s : MS} {g g' : GH} {n idx w : Nat} {e : Nat → Int32} (hi : idx ≤ 1200) (hl : lsM s n ≤ idx ∨ mA s 8 n = 0) (h : NI s g w) (eg : gV g' w (tmM s w) = gV g w (tmM s w)) : NI (oE n idx e s) g' w := by
  by_cases ew : w = n
  · subst ew
    obtain ⟨a1, a2, a3, a4, a5, a6, a7, a8, a9, a10⟩ := h
    have t : tmM (oE w idx e s) w = tmM s w := by unfold tmM; rw [mA_oEx _ _ _ (by omega) (by omega)]
    have em : ∀ q, mtM (oE w idx e s) w q = mtM s w q := fun q => by unfold mtM; rw [mA_oEx _ _ _ (by omega) (by omega)]
    have el : lsM (oE w idx e s) w = idx := by rw [ls_oE hi, up1_eq]
    have x : ∀ x i, x ≠ 13 → x ≠ 5 → mA (oE w idx e s) x i = mA s x i := fun x i h1 h2 => mA_oEx _ _ _ h1 (Or.inl h2)
    have x5 : mA (oE w idx e s) 5 w = Int32.ofNat idx := by rw [mA_oE, if_neg (by omega), if_pos ⟨rfl, rfl⟩]
    unfold NI
    rw [t, el, x 1 w (by decide) (by decide), x 2 w (by decide) (by decide), x 3 w (by decide) (by decide), x 4 w (by decide) (by decide), x5, x 6 w (by decide) (by decide), x 8 w (by decide) (by decide), x 9 w (by decide) (by decide), eg]
    refine ⟨a1, a2, a3, by rw [io_nl (by omega)]; trivial, a5, a6, a7, a8, a9, fun q => ?_⟩
    rcases hl with hl | hl
    · refine ⟨Nat.le_trans (a10 q).1 hl, fun m hm => ?_⟩
      rw [x 11 _ (by omega) (by omega), x 12 _ (by decide) (by decide), em]
      obtain ⟨p, p1, p2, p3⟩ := (a10 q).2 m hm
      exact ⟨p, p1, Nat.le_trans p2 hl, p3⟩
    · rw [hl] at q; exact absurd q (by decide)
  · exact ni_same h (fun x hx => mA_oEx _ _ _ (by omega) (by omega)) (fun q _ => mA_oEx _ _ _ (by omega) (by omega)) (fun q _ => mA_oEx _ _ _ (by omega) (by omega)) eg
theorem rl2 {s : MS} {n : Nat} (h : mA s 8 n = 2) : rlM s n = 2 := by unfold rlM; rw [h]; rfl
theorem rl0 {s : MS} {n : Nat} (h : mA s 8 n = 0) : rlM s n ≠ 1 ∧ rlM s n ≠ 2 := by unfold rlM; rw [h]; decide
theorem rl1 {s : MS} {n : Nat} (h : mA s 8 n = 1) : rlM s n = 1 := by unfold rlM; rw [h]; rfl
theorem rm_ls {s : MS} {g : GH} {n : Nat} (r : RM s g) (h2 : rlM s n = 2) : lsM s n = gW g (tmM s n) := (r.2.2.2.2.2.2.1 n h2).2.1
/-- the leader n writes one entry more -/
theorem mi_push {s : MS} {g : GH} {B K W n : Nat} {e : Nat → Int32} (h : MI s g B K W) (hn : n < 5) (h2 : mA s 8 n = 2) (hB : lsM s n + 1 ≤ B) (hB' : B ≤ 1200) (he : e 0 = mA s 2 n) (hg : legalE (rw8 e)) : MI (oE n (lsM s n + 1) e s) (hP n e s g) B K W ∧ GLe g (hP n e s g) := by
  obtain ⟨r, ni, b1, b2, b3, c1, c2, c3, m, l⟩ := id h
  have r1 := rm_push r (rl2 h2) (by omega) (e := e) (by rw [te_rw, he]; rfl)
  refine ⟨mi_step h r1.1 (fun w hw => ni_oE (by omega) (Or.inl (by omega)) (ni w hw) rfl) (fun v => ?_) (hP_W b2 hB) b3 r1.2 (Nat.le_refl _) (fun x i h1 h2 => mA_oEx _ _ _ (by omega) (by omega)) rfl rfl (hP_legal (B := B) (K := K) (W := W) l (rm_ls r (rl2 h2)) hg), r1.2⟩
  have t : tmM (oE n (lsM s n + 1) e s) v = tmM s v := by unfold tmM; rw [mA_oEx _ _ _ (by omega) (by omega)]
  rw [t]; exact b1 v
/-- n becomes leader -/
def oL (n : Nat) (s : MS) : MS := (fun x i => if x = 8 ∧ i = n then 2 else if x = 11 ∧ 5 * n ≤ i ∧ i < 5 * n + 5 then Int32.ofNat (lsM s n + 1) else if x = 12 ∧ 5 * n ≤ i ∧ i < 5 * n + 5 then 0 else s.1 x i, s.2)
theorem mA_oL (n : Nat) (s : MS) (x i : Nat) : mA (oL n s) x i = if x = 8 ∧ i = n then 2 else if x = 11 ∧ 5 * n ≤ i ∧ i < 5 * n + 5 then Int32.ofNat (lsM s n + 1) else if x = 12 ∧ 5 * n ≤ i ∧ i < 5 * n + 5 then 0 else mA s x i := rfl
theorem mA_oLx {n x : Nat} (s : MS) (i : Nat) (h : x ≠ 8 ∧ x ≠ 11 ∧ x ≠ 12) : mA (oL n s) x i = mA s x i := by
  rw [mA_oL, if_neg (by omega), if_neg (by omega), if_neg (by omega)]
def jL (n : Nat) (s : MS) (g : GH) : GH := (gV g, gC g, gN g, up1 (gD g) (tmM s n) (n + 1), up1 (gE g) (tmM s n) (lgM s n), up1 (gW g) (tmM s n) (lsM s n), up2 (gA g) n (tmM s n) (lsM s n))
theorem rm_lead {s : MS} {g : GH} {n : Nat} (r : RM s g) (hn : n < 5) (h1 : rlM s n = 1) (h3 : M3 (fun w => vsM s n w)) : RM (oL n s) (jL n s g) ∧ GLe g (jL n s g) := by
  have r1 := ri_lead r (v := n) hn h1 h3 (mt' := mtM (oL n s)) (fun w e => by
    funext q
    unfold mtM
    by_cases hq : q < 5
    · rw [if_pos hq, if_pos hq, mA_oL, if_neg (by omega), if_neg (by omega), if_neg (by omega)]
    · rw [if_neg hq, if_neg hq]) (fun w hw => by
    unfold mtM
    rw [if_pos hw, mA_oL, if_neg (by omega), if_neg (by omega), if_pos (by omega)]; rfl)
  refine ⟨rm_of (g := jL n s g) r1.1 (fun w => ?_) (fun w => ?_) (fun w x => ?_) (fun w => ?_) (fun w i => ?_) (fun w => ?_) (fun w => ?_) (fun w x => rfl), r1.2⟩
  · unfold tmM; rw [mA_oLx _ _ (by decide)]
  · unfold rlM up1
    rw [mA_oL]
    by_cases e : w = n
    · rw [if_pos ⟨rfl, e⟩, if_pos e]; rfl
    · rw [if_neg (by omega), if_neg (by omega), if_neg (by omega), if_neg e]
  · unfold vsM; rw [mA_oLx _ _ (by decide)]
  · unfold lsM; rw [mA_oLx _ _ (by decide)]
  · unfold lgM; funext j; rw [mA_oLx _ _ (by decide)]
  · unfold cmM; rw [mA_oLx _ _ (by decide), mA_oLx _ _ (by decide), mA_oLx _ _ (by decide)]
  · unfold bsM; rw [mA_oLx _ _ (by decide)]
theorem jL_legal {s : MS} {g : GH} {n : Nat} (r : RM s g) (hl : ∀ T i, 1 ≤ i → i ≤ gW g T → legalE (gE g T i)) : ∀ T i, 1 ≤ i → i ≤ gW (jL n s g) T → legalE (gE (jL n s g) T i) := by
  intro T i h1 h2
  show legalE (up1 (gE g) (tmM s n) (lgM s n) T i)
  have h2' : i ≤ up1 (gW g) (tmM s n) (lsM s n) T := h2
  by_cases eT : T = tmM s n
  · subst eT
    rw [up1_eq] at h2'
    rw [up1_eq]
    obtain ⟨_, _, q3, q4⟩ := r.2.2.2.1 n i h1 h2'
    rw [q4 i (Nat.le_refl _)]
    exact hl _ i h1 q3
  · rw [up1_ne _ _ eT] at h2'
    rw [up1_ne _ _ eT]; exact hl T i h1 h2'
theorem oL_tm (n w : Nat) (s : MS) : tmM (oL n s) w = tmM s w := by unfold tmM; rw [mA_oLx _ _ (by decide)]
theorem oL_ls (n w : Nat) (s : MS) : lsM (oL n s) w = lsM s w := by unfold lsM; rw [mA_oLx _ _ (by decide)]
theorem oL_rl (n : Nat) (s : MS) : mA (oL n s) 8 n = 2 := by rw [mA_oL, if_pos ⟨rfl, rfl⟩]
/-- .. and writes its first entry -/
theorem mi_lead {s : MS} {g : GH} {B K W n : Nat} {e : Nat → Int32} (h : MI s g B K W) (hn : n < 5) (hu : mA s 1 n = 1) (h1 : mA s 8 n = 1) (h3 : M3 (fun w => vsM s n w)) (hB : lsM s n + 1 ≤ B) (hB' : B ≤ 1200) (he : e 0 = mA s 2 n) (hg : legalE (rw8 e)) : MI (oE n (lsM s n + 1) e (oL n s)) (hP n e (oL n s) (jL n s g)) B K W ∧ GLe g (hP n e (oL n s) (jL n s g)) := by
  obtain ⟨r, ni, b1, b2, b3, c1, c2, c3, m, l⟩ := id h
  have r1 := rm_lead r hn (rl1 h1) h3
  have r2 := rm_push r1.1 (n := n) (rl2 (oL_rl n s)) (by rw [oL_ls]; omega) (e := e) (by rw [te_rw, he, oL_tm]; rfl)
  have W1 : ∀ T, gW (jL n s g) T ≤ B := fun T => by
    show up1 (gW g) (tmM s n) (lsM s n) T ≤ B
    unfold up1; split
    · omega
    · exact b2 T
  have hle := gle_trans r1.2 r2.2
  have ek : lsM (oL n s) n + 1 = lsM s n + 1 := by rw [oL_ls]
  rw [ek] at r2
  refine ⟨mi_step h r2.1 (fun w hw => ?_) (fun v => ?_) (hP_W W1 (by rw [oL_ls]; exact hB)) b3 hle (Nat.le_refl _) (fun x i h1 h2 => ?_) rfl rfl (hP_legal (B := B) (K := K) (W := W) (jL_legal r l) (rm_ls r1.1 (rl2 (oL_rl n s))) hg), hle⟩
  · by_cases ew : w = n
    · subst ew
      obtain ⟨a1, a2, a3, a4, a5, a6, a7, a8, a9, a10⟩ := ni w hw
      have t : tmM (oE w (lsM s w + 1) e (oL w s)) w = tmM s w := by rw [show tmM (oE w (lsM s w + 1) e (oL w s)) w = tmM (oL w s) w from by unfold tmM; rw [mA_oEx _ _ _ (by omega) (by omega)], oL_tm]
      have el : lsM (oE w (lsM s w + 1) e (oL w s)) w = lsM s w + 1 := by rw [ls_oE (by omega), up1_eq]
      have x : ∀ x i, x ≠ 13 → x ≠ 5 → mA (oE w (lsM s w + 1) e (oL w s)) x i = mA (oL w s) x i := fun x i h1 h2 => mA_oEx _ _ _ h1 (Or.inl h2)
      have x5 : mA (oE w (lsM s w + 1) e (oL w s)) 5 w = Int32.ofNat (lsM s w + 1) := by rw [mA_oE, if_neg (by omega), if_pos ⟨rfl, rfl⟩]
      unfold NI
      rw [t, el, x 1 w (by decide) (by decide), x 2 w (by decide) (by decide), x 3 w (by decide) (by decide), x 4 w (by decide) (by decide), x5, x 6 w (by decide) (by decide), x 8 w (by decide) (by decide), x 9 w (by decide) (by decide), oL_rl, mA_oLx _ _ (by decide), mA_oLx _ _ (by decide), mA_oLx _ _ (by decide), mA_oLx _ _ (by decide), mA_oLx _ _ (by decide), mA_oLx _ _ (by decide)]
      refine ⟨a1, a2, a3, by rw [io_nl (by omega)]; trivial, a5, Or.inr (Or.inr rfl), fun q => by rw [hu] at q; exact absurd q (by decide), a8, fun q => absurd q (by decide), fun _ => ⟨by omega, fun q hq => ⟨lsM s w, ?_, by omega, ?_, ?_, ?_⟩⟩⟩
      · rw [x 11 _ (by omega) (by omega), mA_oL, if_neg (by omega), if_pos (by omega)]
      all_goals have z : mtM (oE w (lsM s w + 1) e (oL w s)) w q = 0 := by unfold mtM; rw [if_pos hq, x 12 _ (by decide) (by decide), mA_oL, if_neg (by omega), if_neg (by omega), if_pos (by omega)]; rfl
      · rw [z, x 12 _ (by decide) (by decide), mA_oL, if_neg (by omega), if_neg (by omega), if_pos (by omega)]; rfl
      · rw [z]; omega
      · exact Or.inl z
    · refine ni_oE (by omega) (Or.inl (by rw [oL_ls]; omega)) (ni_same (ni w hw) (fun x hx => ?_) (fun q hq => ?_) (fun q hq => ?_) rfl : NI (oL n s) g w) rfl
      · rw [mA_oL, if_neg (by omega), if_neg (by omega), if_neg (by omega)]
      · rw [mA_oL, if_neg (by omega), if_neg (by omega), if_neg (by omega)]
      · rw [mA_oL, if_neg (by omega), if_neg (by omega), if_neg (by omega)]
  · have t : tmM (oE n (lsM s n + 1) e (oL n s)) v = tmM s v := by rw [show tmM (oE n (lsM s n + 1) e (oL n s)) v = tmM (oL n s) v from by unfold tmM; rw [mA_oEx _ _ _ (by omega) (by omega)], oL_tm]
    rw [t]; exact b1 v
  · rw [mA_oEx _ _ _ (by omega) (by omega), mA_oLx _ _ (by omega)]
/-- .. or its power fails -/
theorem mi_leadD {s : MS} {g : GH} {B K W n : Nat} (h : MI s g B K W) (hn : n < 5) (h1 : mA s 8 n = 1) (h3 : M3 (fun w => vsM s n w)) : MI (oD n (oL n s)) (jL n s g) B K W ∧ GLe g (jL n s g) := by
  obtain ⟨r, ni, b1, b2, b3, c1, c2, c3, m, l⟩ := id h
  have r1 := rm_lead r hn (rl1 h1) h3
  have lsB := mi_ls h n
  refine ⟨mi_step h (rm_down r1.1) (fun w hw => ?_) (fun v => ?_) (fun T => ?_) b3 r1.2 (Nat.le_refl _) (fun x i h1 h2 => ?_) rfl rfl (jL_legal r l), r1.2⟩
  · by_cases ew : w = n
    · subst ew
      obtain ⟨a1, a2, a3, a4, a5, a6, a7, a8, a9, a10⟩ := ni w hw
      have t : tmM (oD w (oL w s)) w = tmM s w := by rw [show tmM (oD w (oL w s)) w = tmM (oL w s) w from by simp [oD, tmM, mA_uA], oL_tm]
      unfold NI
      rw [t]
      simp [oD, mA_uA]
      rw [mA_oLx _ _ (by decide), mA_oLx _ _ (by decide), mA_oLx _ _ (by decide), mA_oLx _ _ (by decide), mA_oLx _ _ (by decide)]
      exact ⟨a2, a3, a4, a5, a8⟩
    · refine ni_same (ni w hw) (fun x hx => ?_) (fun q hq => ?_) (fun q hq => ?_) rfl
      · simp only [oD]; rw [mA_i _ _ _ _ ew, mA_i _ _ _ _ ew, mA_i _ _ _ _ ew, mA_oL, if_neg (by omega), if_neg (by omega), if_neg (by omega)]
      · simp only [oD]; rw [mA_k _ _ _ _ (by decide), mA_k _ _ _ _ (by decide), mA_k _ _ _ _ (by decide), mA_oL, if_neg (by omega), if_neg (by omega), if_neg (by omega)]
      · simp only [oD]; rw [mA_k _ _ _ _ (by decide), mA_k _ _ _ _ (by decide), mA_k _ _ _ _ (by decide), mA_oL, if_neg (by omega), if_neg (by omega), if_neg (by omega)]
  · have t : tmM (oD n (oL n s)) v = tmM s v := by rw [show tmM (oD n (oL n s)) v = tmM (oL n s) v from by simp [oD, tmM, mA_uA], oL_tm]
    rw [t]; exact b1 v
  · show up1 (gW g) (tmM s n) (lsM s n) T ≤ B
    unfold up1; split
    · exact lsB
    · exact b2 T
  · simp only [oD]; rw [mA_k _ _ _ _ (by omega), mA_k _ _ _ _ (by omega), mA_k _ _ _ _ (by omega), mA_oLx _ _ (by omega)]
/-- the follower n takes an entry of its leader's -/
theorem mi_take {s : MS} {g : GH} {B K W n idx : Nat} {e : Nat → Int32} (h : MI s g B K W) (hn : n < 5) (h0 : mA s 8 n = 0) (hd : gD g (tmM s n) ≠ 0) (h1 : 1 ≤ idx) (hi : idx ≤ gW g (tmM s n)) (hB : B ≤ 1200) (ha : Ag (lgM s n) (gE g (tmM s n)) (idx - 1)) (he : rw8 e = gE g (tmM s n) idx) (hx : lsM s n < idx ∨ teM (lgM s n idx) ≠ teM (gE g (tmM s n) idx)) : MI (oE n idx e s) g B K W := by
  obtain ⟨r, ni, b1, b2, b3, c1, c2, c3, m, l⟩ := id h
  have hi2 : idx ≤ 1200 := Nat.le_trans hi (Nat.le_trans (b2 _) hB)
  have r1 := ri_log r (v := n) (rl0 h0) hd (x := up1 (lgM s n) idx (rw8 e)) (m := idx) hi (fun j hj => by
    by_cases ej : j = idx
    · subst ej; rw [up1_eq, he]
    · rw [up1_ne _ _ ej]; exact ha j (by omega)) hx
  have t : ∀ w, tmM (oE n idx e s) w = tmM s w := fun w => by unfold tmM; rw [mA_oEx _ _ _ (by omega) (by omega)]
  refine mi_step h (rm_of r1 t (fun w => ?_) (fun w x => ?_) (ls_oE hi2 e s) (fun w i => ?_) (fun w => ?_) (fun w => ?_) (fun w x => ?_)) (fun w hw => ni_oE hi2 (Or.inr h0) (ni w hw) rfl) (fun v => by rw [t]; exact b1 v) b2 b3 (gle_refl g) (Nat.le_refl _) (fun x i h1 h2 => mA_oEx _ _ _ (by omega) (by omega)) rfl rfl l
  · unfold rlM; rw [mA_oEx _ _ _ (by omega) (by omega)]
  · unfold vsM; rw [mA_oEx _ _ _ (by omega) (by omega)]
  · rw [lg_oE hi2]
    by_cases ew : w = n
    · subst ew; rw [up1_eq]
      by_cases ej : i = idx
      · subst ej; rw [up1_eq, up2_eq]
      · rw [up1_ne _ _ ej, up2_n2 _ _ _ ej]
    · rw [up1_ne _ _ ew, up2_n1 _ _ _ ew]
  · unfold cmM; rw [mA_oEx _ _ _ (by omega) (by omega), mA_oEx _ _ _ (by omega) (by omega), mA_oEx _ _ _ (by omega) (by omega)]
  · unfold bsM; rw [mA_oEx _ _ _ (by omega) (by omega)]
  · unfold mtM; rw [mA_oEx _ _ _ (by omega) (by omega)]
/-- n has accepted its leader's log up to i -/
def hA (n T i : Nat) (g : GH) : GH := (gV g, gC g, gN g, gD g, gE g, gW g, up2 (gA g) n T (max (gA g n T) i))
theorem mi_ack {s : MS} {g : GH} {B K W n i : Nat} (h : MI s g B K W) (hi : i ≤ lsM s n) (hL : i ≤ gW g (tmM s n)) (ha : Ag (lgM s n) (gE g (tmM s n)) i) : MI s (hA n (tmM s n) i g) B K W ∧ GLe g (hA n (tmM s n) i g) ∧ i ≤ gA (hA n (tmM s n) i g) n (tmM s n) := by
  obtain ⟨r, ni, b1, b2, b3, c1, c2, c3, m, l⟩ := id h
  have r1 := ri_ack r (v := n) hi hL ha
  exact ⟨mi_step h r1.1 (fun w hw => ni_same (ni w hw) (fun _ _ => rfl) (fun _ _ => rfl) (fun _ _ => rfl) rfl) b1 b2 b3 r1.2 (Nat.le_refl _) (fun _ _ _ _ => rfl) rfl rfl l, r1.2, by show i ≤ up2 (gA g) n (tmM s n) _ n (tmM s n); rw [up2_eq]; omega⟩
theorem mi_commit {s : MS} {g : GH} {B K W n k : Nat} (h : MI s g B K W) (hn : n < 5) (hu : mA s 1 n = 1) (hB : B ≤ 1200) (hk : k ≤ lsM s n) (hb : bsM s n ≤ k) (hc : CPM g (lgM s n) (tmM s n) k) : MI (uA s 6 n (Int32.ofNat k)) g B K W := by
  obtain ⟨r, ni, b1, b2, b3, c1, c2, c3, m, l⟩ := id h
  have lsB := mi_ls h n
  have r1 := ri_cm r (v := n) hk hb hc
  have t : ∀ w, tmM (uA s 6 n (Int32.ofNat k)) w = tmM s w := fun w => by simp [tmM, mA_uA]
  refine mi_step h (rm_of r1 t (fun w => ?_) (fun w x => ?_) (fun w => ?_) (fun w i => ?_) (fun w => ?_) (fun w => ?_) (fun w x => ?_)) (fun w hw => ?_) (fun v => by rw [t]; exact b1 v) b2 b3 (gle_refl g) (Nat.le_refl _) (fun x i h1 h2 => mA_k _ _ _ _ (by omega)) rfl rfl l
  · simp [rlM, mA_uA]
  · simp [vsM, mA_uA]
  · simp [lsM, mA_uA]
  · funext j; simp [lgM, mA_uA]
  · by_cases e : w = n
    · subst e; rw [up1_eq]; simp [cmM, mA_uA, hu, io_cl (show k < 2147483648 by omega)]
    · simp [cmM, mA_uA, up1, e]
  · by_cases e : w = n <;> simp [bsM, mA_uA, up1, e]
  · simp [mtM, mA_uA]
  · by_cases e : w = n
    · subst e
      obtain ⟨a1, a2, a3, a4, a5, a6, a7, a8, a9, a10⟩ := ni w hw
      have em : ∀ z, mtM (uA s 6 w (Int32.ofNat k)) w z = mtM s w z := fun z => by simp [mtM, mA_uA]
      have el : lsM (uA s 6 w (Int32.ofNat k)) w = lsM s w := by simp [lsM, mA_uA]
      unfold NI
      rw [t, el]
      simp only [em]
      simp [-Int32.ofNat_add, mA_uA]
      exact ⟨a1, a2, a3, a4, by rw [io_nl (by omega)]; trivial, a6, a7, a8, a9, a10⟩
    · exact ni_same (ni w hw) (fun x hx => by simp [mA_uA, e]) (fun q hq => by simp [mA_uA]) (fun q hq => by simp [mA_uA]) rfl
/-- the leader n hears that m has accepted up to i -/
def oK (n m i : Nat) (s : MS) : MS := uA (uA s 12 (5 * n + m) (Int32.ofNat i)) 11 (5 * n + m) (Int32.ofNat (i + 1))
theorem mi_match {s : MS} {g : GH} {B K W n q i : Nat} (h : MI s g B K W) (hn : n < 5) (hq : q < 5) (h2 : mA s 8 n = 2) (hB : B ≤ 1200) (hi : i ≤ gA g q (tmM s n)) : MI (oK n q i s) g B K W := by
  obtain ⟨r, ni, b1, b2, b3, c1, c2, c3, m, l⟩ := id h
  have hil : i ≤ lsM s n := by rw [rm_ls r (rl2 h2)]; exact Nat.le_trans hi (r.2.2.2.2.2.2.2.2.1 q (tmM s n))
  have lsB := mi_ls h n
  have t : ∀ w, tmM (oK n q i s) w = tmM s w := fun w => by simp [oK, tmM, mA_uA]
  have em : ∀ w x, mtM (oK n q i s) w x = if w = n ∧ x = q then i else mtM s w x := fun w x => by
    unfold mtM
    simp only [oK]
    rw [mA_k _ _ _ _ (by decide), mA_uA]
    by_cases hx : x < 5
    · rw [if_pos hx, if_pos hx]
      by_cases e : w = n ∧ x = q
      · rw [if_pos e, if_pos ⟨rfl, by omega⟩]; exact io_cl (by omega)
      · rw [if_neg e, if_neg (by omega)]
    · rw [if_neg hx, if_neg hx, if_neg (by omega)]
  have r1 := ri_weak r (rl' := rlM s) (vs' := vsM s) (mt' := mtM (oK n q i s)) (fun w => Or.inr ⟨rfl, fun _ x _ q => Or.inl q, fun _ x _ => by
    rw [em]
    by_cases e : w = n ∧ x = q
    · rw [if_pos e, e.1, e.2]; exact Or.inr hi
    · rw [if_neg e]; exact Or.inl (Nat.le_refl _)⟩)
  refine mi_step h (rm_of r1 t (fun w => ?_) (fun w x => ?_) (fun w => ?_) (fun w i => ?_) (fun w => ?_) (fun w => ?_) (fun w x => rfl)) (fun w hw => ?_) (fun v => by rw [t]; exact b1 v) b2 b3 (gle_refl g) (Nat.le_refl _) (fun x i h1 h2 => by simp only [oK]; rw [mA_k _ _ _ _ (by omega), mA_k _ _ _ _ (by omega)]) rfl rfl l
  · simp [oK, rlM, mA_uA]
  · simp [oK, vsM, mA_uA]
  · simp [oK, lsM, mA_uA]
  · funext j; simp [oK, lgM, mA_uA]
  · simp [oK, cmM, mA_uA]
  · simp [oK, bsM, mA_uA]
  · by_cases e : w = n
    · subst e
      obtain ⟨a1, a2, a3, a4, a5, a6, a7, a8, a9, a10⟩ := ni w hw
      have el : lsM (oK w q i s) w = lsM s w := by simp [oK, lsM, mA_uA]
      have x : ∀ x i', x ≠ 11 → x ≠ 12 → mA (oK w q i s) x i' = mA s x i' := fun x i' h1 h2 => by simp only [oK]; rw [mA_k _ _ _ _ h1, mA_k _ _ _ _ h2]
      unfold NI
      rw [t, el, x 1 w (by decide) (by decide), x 2 w (by decide) (by decide), x 3 w (by decide) (by decide), x 4 w (by decide) (by decide), x 5 w (by decide) (by decide), x 6 w (by decide) (by decide), x 8 w (by decide) (by decide), x 9 w (by decide) (by decide)]
      refine ⟨a1, a2, a3, a4, a5, a6, a7, a8, a9, fun z => ⟨(a10 z).1, fun y hy => ?_⟩⟩
      rw [em]
      unfold oK
      by_cases e : y = q
      · subst e
        rw [if_pos (And.intro rfl rfl), mA_h, mA_k _ _ _ _ (by decide), mA_h]
        exact ⟨i, rfl, hil, rfl, Nat.le_refl _, Or.inr rfl⟩
      · rw [if_neg (fun z => e z.2), mA_i _ _ _ _ (by omega), mA_k _ _ _ _ (by decide), mA_k _ _ _ _ (by decide), mA_i _ _ _ _ (by omega)]
        exact (a10 z).2 y hy
    · refine ni_same (ni w hw) (fun x hx => by simp only [oK]; rw [mA_k _ _ _ _ (by omega), mA_k _ _ _ _ (by omega)]) (fun z hz => ?_) (fun z hz => ?_) rfl
      · simp only [oK]; rw [mA_i _ _ _ _ (by omega), mA_k _ _ _ _ (by decide)]
      · simp only [oK]; rw [mA_k _ _ _ _ (by decide), mA_i _ _ _ _ (by omega)]
theorem mi_next {s : MS} {g : GH} {B K W n q p : Nat} (h : MI s g B K W) (hn : n < 5) (hq : q < 5) (hp : p ≤ lsM s n) (hm : mtM s n q ≤ p) (hm' : mtM s n q = 0 ∨ p = mtM s n q) : MI (uA s 11 (5 * n + q) (Int32.ofNat (p + 1))) g B K W := by
  obtain ⟨r, ni, b1, b2, b3, c1, c2, c3, m, l⟩ := id h
  have t : ∀ w, tmM (uA s 11 (5 * n + q) (Int32.ofNat (p + 1))) w = tmM s w := fun w => by simp [tmM, mA_uA]
  refine mi_step h (rm_of r t (fun w => ?_) (fun w x => ?_) (fun w => ?_) (fun w i => ?_) (fun w => ?_) (fun w => ?_) (fun w x => ?_)) (fun w hw => ?_) (fun v => by rw [t]; exact b1 v) b2 b3 (gle_refl g) (Nat.le_refl _) (fun x i h1 h2 => mA_k _ _ _ _ (by omega)) rfl rfl l
  · simp [rlM, mA_uA]
  · simp [vsM, mA_uA]
  · simp [lsM, mA_uA]
  · funext j; simp [lgM, mA_uA]
  · simp [cmM, mA_uA]
  · simp [bsM, mA_uA]
  · simp [mtM, mA_uA]
  · by_cases e : w = n
    · subst e
      obtain ⟨a1, a2, a3, a4, a5, a6, a7, a8, a9, a10⟩ := ni w hw
      have em : ∀ z, mtM (uA s 11 (5 * w + q) (Int32.ofNat (p + 1))) w z = mtM s w z := fun z => by simp [mtM, mA_uA]
      have el : lsM (uA s 11 (5 * w + q) (Int32.ofNat (p + 1))) w = lsM s w := by simp [lsM, mA_uA]
      have x : ∀ x i', x ≠ 11 → mA (uA s 11 (5 * w + q) (Int32.ofNat (p + 1))) x i' = mA s x i' := fun x i' h1 => mA_k _ _ _ _ h1
      unfold NI
      rw [t, el, x 1 w (by decide), x 2 w (by decide), x 3 w (by decide), x 4 w (by decide), x 5 w (by decide), x 6 w (by decide), x 8 w (by decide), x 9 w (by decide)]
      refine ⟨a1, a2, a3, a4, a5, a6, a7, a8, a9, fun z => ⟨(a10 z).1, fun y hy => ?_⟩⟩
      rw [em, x 12 _ (by decide)]
      obtain ⟨p', p1, p2, p3, p4⟩ := (a10 z).2 y hy
      by_cases e : y = q
      · subst e
        rw [mA_h]
        exact ⟨p, rfl, hp, p3, hm, hm'⟩
      · rw [mA_i _ _ _ _ (by omega)]
        exact ⟨p', p1, p2, p3, p4⟩
    · refine ni_same (ni w hw) (fun x hx => mA_k _ _ _ _ (by omega)) (fun z hz => mA_i _ _ _ _ (by omega)) (fun z hz => mA_k _ _ _ _ (by decide)) rfl
theorem mi_shrink {s : MS} {g : GH} {B K W n : Nat} (h : MI s g B K W) (hn : n < 5) (hu : mA s 1 n = 1) : MI (uA s 4 n (mA s 6 n)) g B K W := by
  obtain ⟨r, ni, b1, b2, b3, c1, c2, c3, m, l⟩ := id h
  obtain ⟨_, _, _, _, _, _, _, _, _, _, _, _, _, r14⟩ := id r
  have ec : cmM s n = (mA s 6 n).toNatClampNeg := by unfold cmM; rw [hu, if_neg (by decide)]
  have r1 := ri_cm r (v := n) (k := cmM s n) (b := cmM s n) (r14 n).1 (Nat.le_refl _) (r14 n).2.2
  have t : ∀ w, tmM (uA s 4 n (mA s 6 n)) w = tmM s w := fun w => by simp [tmM, mA_uA]
  refine mi_step h (rm_of r1 t (fun w => ?_) (fun w x => ?_) (fun w => ?_) (fun w i => ?_) (fun w => ?_) (fun w => ?_) (fun w x => ?_)) (fun w hw => ?_) (fun v => by rw [t]; exact b1 v) b2 b3 (gle_refl g) (Nat.le_refl _) (fun x i h1 h2 => mA_k _ _ _ _ (by omega)) rfl rfl l
  · simp [rlM, mA_uA]
  · simp [vsM, mA_uA]
  · simp [lsM, mA_uA]
  · funext j; simp [lgM, mA_uA]
  · by_cases e : w = n
    · subst e; rw [up1_eq, ec]; simp [cmM, mA_uA, hu]
    · simp [cmM, mA_uA, up1, e]
  · by_cases e : w = n
    · subst e; rw [up1_eq, ec]; simp [bsM, mA_uA]
    · simp [bsM, mA_uA, up1, e]
  · simp [mtM, mA_uA]
  · by_cases e : w = n
    · subst e
      obtain ⟨a1, a2, a3, a4, a5, a6, a7, a8, a9, a10⟩ := ni w hw
      have em : ∀ z, mtM (uA s 4 w (mA s 6 w)) w z = mtM s w z := fun z => by simp [mtM, mA_uA]
      have el : lsM (uA s 4 w (mA s 6 w)) w = lsM s w := by simp [lsM, mA_uA]
      unfold NI
      rw [t, el]
      simp only [em]
      simp [-Int32.ofNat_add, mA_uA]
      exact ⟨a1, a2, a5, a4, a5, a6, a7, a8, a9, a10⟩
    · exact ni_same (ni w hw) (fun x hx => by simp [mA_uA, e]) (fun q hq => by simp [mA_uA]) (fun q hq => by simp [mA_uA]) rfl
def oU (n : Nat) (s : MS) : MS := uA (uA (uA (uA s 1 n 1) 6 n (mA s 4 n)) 7 n (mA s 4 n)) 9 n 0
theorem mi_start {s : MS} {g : GH} {B K W n : Nat} (h : MI s g B K W) (hn : n < 5) (hu : mA s 1 n = 0) : MI (oU n s) g B K W := by
  obtain ⟨r, ni, b1, b2, b3, c1, c2, c3, m, l⟩ := id h
  have z8 : mA s 8 n = 0 := (ni n hn).2.2.2.2.2.2.1 hu
  have r1 := ri_weak r (rl' := rlM s) (vs' := vsM (oU n s)) (mt' := mtM s) (fun w => by
    by_cases e : w = n
    · subst e; exact Or.inl (rl0 z8)
    · exact Or.inr ⟨rfl, fun _ x _ q => Or.inl (by simpa [oU, vsM, mA_uA, e] using q), fun _ x _ => Or.inl (Nat.le_refl _)⟩)
  have t : ∀ w, tmM (oU n s) w = tmM s w := fun w => by simp [oU, tmM, mA_uA]
  refine mi_step h (rm_of r1 t (fun w => ?_) (fun w x => rfl) (fun w => ?_) (fun w i => ?_) (fun w => ?_) (fun w => ?_) (fun w x => ?_)) (fun w hw => ?_) (fun v => by rw [t]; exact b1 v) b2 b3 (gle_refl g) (Nat.le_refl _) (fun x i h1 h2 => by simp only [oU]; rw [mA_k _ _ _ _ (by omega), mA_k _ _ _ _ (by omega), mA_k _ _ _ _ (by omega), mA_k _ _ _ _ (by omega)]) rfl rfl l
  · simp [oU, rlM, mA_uA]
  · simp [oU, lsM, mA_uA]
  · funext j; simp [oU, lgM, mA_uA]
  · by_cases e : w = n
    · subst e; simp [oU, cmM, mA_uA, hu]
    · simp [oU, cmM, mA_uA, e]
  · simp [oU, bsM, mA_uA]
  · simp [oU, mtM, mA_uA]
  · by_cases e : w = n
    · subst e
      obtain ⟨a1, a2, a3, a4, a5, a6, a7, a8, a9, a10⟩ := ni w hw
      unfold NI
      rw [t]
      simp [oU, mA_uA, z8]
      exact ⟨a2, a3, a4, a3, a8⟩
    · exact ni_same (ni w hw) (fun x hx => by simp [oU, mA_uA, e]) (fun q hq => by simp [oU, mA_uA]) (fun q hq => by simp [oU, mA_uA]) rfl
/-- n installs the snapshot w, of BASE b; LAST becomes l -/
def oI (n b w l : Nat) (s : MS) : MS := uA (uA (uA (uA (uA (oC 13 ((n * 1201 + 0) * 8) 24 (w * 1201 * 8) ((b + 1) * 8) s) 4 n (Int32.ofNat b)) 5 n (Int32.ofNat l)) 6 n (Int32.ofNat b)) 7 n (Int32.ofNat b)) 14 n (mA s 14 n + 1)
theorem mA_oIx {n b w l x : Nat} (s : MS) (i : Nat) (h : x ≠ 13) (h' : (x ≠ 4 ∧ x ≠ 5 ∧ x ≠ 6 ∧ x ≠ 7 ∧ x ≠ 14) ∨ i ≠ n) : mA (oI n b w l s) x i = mA s x i := by
  unfold oI
  rw [mA_uA, if_neg (by omega), mA_uA, if_neg (by omega), mA_uA, if_neg (by omega), mA_uA, if_neg (by omega), mA_uA, if_neg (by omega), mA_oC, if_neg (by omega)]
theorem lg_oI {n b w l : Nat} (hb : b ≤ 1200) (s : MS) (v i : Nat) : lgM (oI n b w l s) v i = if v = n ∧ i ≤ b then srM s w i else lgM s v i := by
  funext j
  unfold lgM oI
  rw [mA_k _ _ _ _ (by decide), mA_k _ _ _ _ (by decide), mA_k _ _ _ _ (by decide), mA_k _ _ _ _ (by decide), mA_k _ _ _ _ (by decide), mA_oC]
  by_cases hj : i ≤ 1200 ∧ j < 8
  · rw [if_pos hj]
    by_cases e : v = n ∧ i ≤ b
    · rw [if_pos e, if_pos (by omega)]
      unfold srM
      rw [if_pos hj, show w * 1201 * 8 + ((v * 1201 + i) * 8 + j - (n * 1201 + 0) * 8) = (w * 1201 + i) * 8 + j by omega]
    · rw [if_neg e, if_neg (by omega)]; exact (if_pos hj).symm
  · rw [if_neg hj]
    by_cases e : v = n ∧ i ≤ b
    · rw [if_pos e]; unfold srM; rw [if_neg hj]
    · rw [if_neg e]; exact (if_neg hj).symm
theorem mi_install {s : MS} {g : GH} {B K W n b w l : Nat} (h : MI s g B K W) (hn : n < 5) (hu : mA s 1 n = 1) (h0 : mA s 8 n = 0) (hd : gD g (tmM s n) ≠ 0) (hB : B ≤ 1200) (h1 : 1 ≤ b) (hb : b ≤ gW g (tmM s n)) (hs : ∀ i, i ≤ b → srM s w i = gE g (tmM s n) i) (hc : CPM g (gE g (tmM s n)) (tmM s n) b) (hl : (b ≤ lsM s n ∧ teM (lgM s n b) = teM (gE g (tmM s n) b) ∧ l = lsM s n) ∨ ((lsM s n < b ∨ teM (lgM s n b) ≠ teM (gE g (tmM s n) b)) ∧ l = b)) : MI (oI n b w l s) g B K W := by
  obtain ⟨r, ni, b1, b2, b3, c1, c2, c3, m, lg⟩ := id h
  have hb2 : b ≤ 1200 := Nat.le_trans hb (Nat.le_trans (b2 _) hB)
  have lsB := mi_ls h n
  have hl2 : l ≤ 1200 := by rcases hl with q | q <;> omega
  have hbl : b ≤ l := by rcases hl with q | q <;> omega
  have r1 : RI teM e0M (tmM s) (rlM s) (vsM s) (up1 (lsM s) n l) (up1 (lgM s) n (fun i => if i ≤ b then srM s w i else lgM s n i)) (cmM s) (bsM s) (mtM s) (gV g) (gC g) (gN g) (gD g) (gE g) (gW g) (gA g) := by
    rcases hl with ⟨q1, q2, q3⟩ | ⟨q1, q2⟩
    · obtain ⟨_, _, _, r4, r5, _⟩ := id r
      have ag := lm_eq (te := teM) (r4 n b h1 q1) (r5 _ b h1 hb) q2
      have e1 : up1 (lsM s) n l = lsM s := by
        funext v; unfold up1; split
        · rename_i z; rw [z, q3]
        · rfl
      have e2 : up1 (lgM s) n (fun i => if i ≤ b then srM s w i else lgM s n i) = lgM s := by
        funext v; unfold up1; split
        · rename_i z; subst z; funext i
          by_cases hi : i ≤ b
          · rw [if_pos hi, hs i hi, ag i hi]
          · rw [if_neg hi]
        · rfl
      rw [e1, e2]; exact r
    · subst q2
      exact ri_log r (v := n) (rl0 h0) hd (m := l) hb (fun j hj => by show (if j ≤ l then srM s w j else lgM s n j) = _; rw [if_pos hj, hs j hj]) q1
  have r2 := ri_cm r1 (v := n) (k := b) (b := b) (by rw [up1_eq]; exact hbl) (Nat.le_refl _) (cpt_mono teM (fun _ => Nat.le_refl _) (fun _ _ _ => rfl) (fun _ _ => Nat.le_refl _) (Nat.le_refl _) (fun j hj => by rw [up1_eq]; show (if j ≤ b then srM s w j else lgM s n j) = _; rw [if_pos hj, hs j hj]) hc)
  have t : ∀ v, tmM (oI n b w l s) v = tmM s v := fun v => by unfold tmM; rw [mA_oIx _ _ (by omega) (by omega)]
  refine mi_step h (rm_of r2 t (fun v => ?_) (fun v x => ?_) (fun v => ?_) (fun v i => ?_) (fun v => ?_) (fun v => ?_) (fun v x => ?_)) (fun v hv => ?_) (fun v => by rw [t]; exact b1 v) b2 b3 (gle_refl g) (Nat.le_refl _) (fun x i h1 h2 => mA_oIx _ _ (by omega) (by omega)) rfl rfl lg
  · unfold rlM; rw [mA_oIx _ _ (by omega) (by omega)]
  · unfold vsM; rw [mA_oIx _ _ (by omega) (by omega)]
  · by_cases e : v = n
    · subst e; rw [up1_eq]; unfold lsM oI
      rw [mA_k _ _ _ _ (by decide), mA_k _ _ _ _ (by decide), mA_k _ _ _ _ (by decide), mA_h]; exact io_cl (by omega)
    · rw [up1_ne _ _ e]; unfold lsM; rw [mA_oIx _ _ (by decide) (Or.inr e)]
  · rw [lg_oI hb2]
    by_cases e : v = n
    · subst e; rw [up1_eq]
      by_cases hi : i ≤ b
      · rw [if_pos ⟨rfl, hi⟩, if_pos hi]
      · rw [if_neg (fun q => hi q.2), if_neg hi]
    · rw [up1_ne _ _ e, if_neg (fun q => e q.1)]
  · by_cases e : v = n
    · subst e; rw [up1_eq]; unfold cmM
      rw [mA_oIx _ _ (by omega) (by omega), hu, if_neg (by decide)]
      unfold oI
      rw [mA_k _ _ _ _ (by decide), mA_k _ _ _ _ (by decide), mA_h]; exact io_cl (by omega)
    · rw [up1_ne _ _ e]; unfold cmM; rw [mA_oIx _ _ (by omega) (by omega), mA_oIx _ _ (by decide) (Or.inr e), mA_oIx _ _ (by decide) (Or.inr e)]
  · by_cases e : v = n
    · subst e; rw [up1_eq]; unfold bsM oI
      rw [mA_k _ _ _ _ (by decide), mA_k _ _ _ _ (by decide), mA_k _ _ _ _ (by decide), mA_k _ _ _ _ (by decide), mA_h]; exact io_cl (by omega)
    · rw [up1_ne _ _ e]; unfold bsM; rw [mA_oIx _ _ (by decide) (Or.inr e)]
  · unfold mtM; rw [mA_oIx _ _ (by omega) (by omega)]
  · by_cases e : v = n
    · subst e
      obtain ⟨a1, a2, a3, a4, a5, a6, a7, a8, a9, a10⟩ := ni v hv
      unfold NI
      rw [t, mA_oIx (x := 1) _ _ (by omega) (by omega), mA_oIx (x := 2) _ _ (by omega) (by omega), mA_oIx (x := 3) _ _ (by omega) (by omega), mA_oIx (x := 8) _ _ (by omega) (by omega), mA_oIx (x := 9) _ _ (by omega) (by omega)]
      refine ⟨a1, a2, ?_, ?_, ?_, a6, a7, a8, a9, fun q => by rw [h0] at q; exact absurd q (by decide)⟩
      · unfold oI; rw [mA_k _ _ _ _ (by decide), mA_k _ _ _ _ (by decide), mA_k _ _ _ _ (by decide), mA_k _ _ _ _ (by decide), mA_h, io_nl (by omega)]; trivial
      · unfold oI; rw [mA_k _ _ _ _ (by decide), mA_k _ _ _ _ (by decide), mA_k _ _ _ _ (by decide), mA_h, io_nl (by omega)]; trivial
      · unfold oI; rw [mA_k _ _ _ _ (by decide), mA_k _ _ _ _ (by decide), mA_h, io_nl (by omega)]; trivial
    · exact ni_same (ni v hv) (fun x hx => mA_oIx _ _ (by omega) (Or.inr e)) (fun q hq => mA_oIx _ _ (by omega) (by omega)) (fun q hq => mA_oIx _ _ (by omega) (by omega)) rfl
