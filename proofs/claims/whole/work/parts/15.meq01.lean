set_option maxRecDepth 100000 in
set_option maxHeartbeats 4000000 in
theorem eX10_at {M : Nat} {h : Hp} (hw : MW M h) (x1 : Int32) (x2 : Int32) (s : MS) : fX10_at M x1 x2 (pm M h s) = lft M h (gX10_at x1 x2 s) := by
  unfold fX10_at gX10_at
  simp only [bd_some, onR_some, bd2_lft, lft_bd, lft_bdm, lft_ite, lft_some, lft_none, pm_kd hw]
set_option maxRecDepth 100000 in
set_option maxHeartbeats 4000000 in
theorem eX10_termAt {M : Nat} {h : Hp} (hw : MW M h) (x1 : Int32) (x2 : Int32) (s : MS) : fX10_termAt M x1 x2 (pm M h s) = lft M h (gX10_termAt x1 x2 s) := by
  unfold fX10_termAt gX10_termAt
  simp only [bd_some, onR_some, bd2_lft, lft_bd, lft_bdm, lft_ite, lft_some, lft_none, pm_kd hw, qR13 hw, ql13 hw, qs13 hw, qz13 hw, eX10_at hw]
set_option maxRecDepth 100000 in
set_option maxHeartbeats 4000000 in
theorem eX10_made {M : Nat} {h : Hp} (hw : MW M h) (x1 : Int32) (x2 : Int32) (x3 : Int32) (s : MS) : fX10_made M x1 x2 x3 (pm M h s) = lft M h (gX10_made x1 x2 x3 s) := by
  unfold fX10_made gX10_made
  simp only [bd_some, onR_some, bd2_lft, lft_bd, lft_bdm, lft_ite, lft_some, lft_none, pm_kd hw, qR15 hw, qR16 hw, qR17 hw, qR18 hw, qR19 hw, qR2 hw, qR20 hw, qR21 hw, qR22 hw, qg24 hw, ql15 hw, ql16 hw, ql17 hw, ql18 hw, ql19 hw, ql2 hw, ql20 hw, ql21 hw, ql22 hw, qp24 hw, qs15 hw, qs16 hw, qs17 hw, qs18 hw, qs19 hw, qs2 hw, qs20 hw, qs21 hw, qs22 hw, qz15 hw, qz16 hw, qz17 hw, qz18 hw, qz19 hw, qz2 hw, qz20 hw, qz21 hw, qz22 hw]
set_option maxRecDepth 100000 in
set_option maxHeartbeats 4000000 in
theorem eX10_send_230_body {M : Nat} {h : Hp} (hw : MW M h) (c230 : Nat → Int32 → Int32 → Int32 → Int32 → Hp → Option (Unit × Hp)) (k230 : Int32 → Int32 → Int32 → Int32 → MS → Option (Unit × MS)) (hk230 : ∀ (x1 : Int32) (x3 : Int32) (x4 : Int32) (x5 : Int32) (s : MS), c230 M x1 x3 x4 x5 (pm M h s) = lft M h (k230 x1 x3 x4 x5 s)) (x1 : Int32) (x3 : Int32) (x4 : Int32) (x5 : Int32) (s : MS) : fX10_send_230_body c230 M x1 x3 x4 x5 (pm M h s) = lft M h (gX10_send_230_body k230 x1 x3 x4 x5 s) := by
  unfold fX10_send_230_body gX10_send_230_body
  simp only [bd_some, onR_some, bd2_lft, lft_bd, lft_bdm, lft_ite, lft_some, lft_none, pm_kd hw, qR13 hw, qR21 hw, qR23 hw, ql13 hw, ql21 hw, ql23 hw, qs13 hw, qs21 hw, qs23 hw, qz13 hw, qz21 hw, qz23 hw, eX10_at hw, hk230]
set_option maxRecDepth 100000 in
set_option maxHeartbeats 4000000 in
theorem eX10_send_230 {M : Nat} {h : Hp} (hw : MW M h) : ∀ (n : Nat) (x1 : Int32) (x3 : Int32) (x4 : Int32) (x5 : Int32)  (s : MS), fX10_send_230 n M x1 x3 x4 x5 (pm M h s) = lft M h (gX10_send_230 n x1 x3 x4 x5 s) := by
  intro n
  induction n with
  | zero => intros; rfl
  | succ n ih => exact eX10_send_230_body hw _ _ ih
set_option maxRecDepth 100000 in
set_option maxHeartbeats 4000000 in
theorem eX10_send_93_body {M : Nat} {h : Hp} (hw : MW M h) (c93 : Nat → Int32 → Int32 → Hp → Option (Unit × Hp)) (k93 : Int32 → Int32 → MS → Option (Unit × MS)) (hk93 : ∀ (x1 : Int32) (x5 : Int32) (s : MS), c93 M x1 x5 (pm M h s) = lft M h (k93 x1 x5 s)) (x1 : Int32) (x5 : Int32) (s : MS) : fX10_send_93_body c93 M x1 x5 (pm M h s) = lft M h (gX10_send_93_body k93 x1 x5 s) := by
  unfold fX10_send_93_body gX10_send_93_body
  simp only [bd_some, onR_some, bd2_lft, lft_bd, lft_bdm, lft_ite, lft_some, lft_none, pm_kd hw, qR13 hw, qR25 hw, qR4 hw, qg27 hw, ql13 hw, ql24 hw, ql4 hw, qp27 hw, qs13 hw, qs24 hw, qs4 hw, qz13 hw, qz24 hw, qz4 hw, eX10_at hw, hk93]
set_option maxRecDepth 100000 in
set_option maxHeartbeats 4000000 in
theorem eX10_send_93 {M : Nat} {h : Hp} (hw : MW M h) : ∀ (n : Nat) (x1 : Int32) (x5 : Int32)  (s : MS), fX10_send_93 n M x1 x5 (pm M h s) = lft M h (gX10_send_93 n x1 x5 s) := by
  intro n
  induction n with
  | zero => intros; rfl
  | succ n ih => exact eX10_send_93_body hw _ _ ih
set_option maxRecDepth 100000 in
set_option maxHeartbeats 4000000 in
theorem eX10_send {M : Nat} {h : Hp} (hw : MW M h) (x1 : Int32) (x2 : Int32) (s : MS) : fX10_send M x1 x2 (pm M h s) = lft M h (gX10_send x1 x2 s) := by
  unfold fX10_send gX10_send
  simp only [bd_some, onR_some, bd2_lft, lft_bd, lft_bdm, lft_ite, lft_some, lft_none, pm_kd hw, qR11 hw, qR19 hw, qR20 hw, qR21 hw, qR22 hw, qR26 hw, qR4 hw, qR5 hw, qR6 hw, qg27 hw, ql11 hw, ql19 hw, ql20 hw, ql21 hw, ql22 hw, ql25 hw, ql4 hw, ql5 hw, ql6 hw, qs11 hw, qs19 hw, qs20 hw, qs21 hw, qs22 hw, qs25 hw, qs4 hw, qs5 hw, qs6 hw, qz11 hw, qz19 hw, qz20 hw, qz21 hw, qz22 hw, qz25 hw, qz4 hw, qz5 hw, qz6 hw, eX10_made hw, eX10_termAt hw, eX10_send_93 hw, eX10_send_230 hw]
set_option maxRecDepth 100000 in
set_option maxHeartbeats 4000000 in
theorem eX10_accepted_130 {M : Nat} {h : Hp} (hw : MW M h) (k50 : Int32 → Int32 → Int32 → Int32 → Int32 → MS → Option (Unit × MS)) (c50 : Nat → Int32 → Int32 → Int32 → Int32 → Int32 → Hp → Option (Unit × Hp)) (hk50 : ∀ (x1 : Int32) (x2 : Int32) (x4 : Int32) (x5 : Int32) (x6 : Int32) (s : MS), c50 M x1 x2 x4 x5 x6 (pm M h s) = lft M h (k50 x1 x2 x4 x5 x6 s)) (x1 : Int32) (x2 : Int32) (x4 : Int32) (x5 : Int32) (x6 : Int32) (s : MS) : fX10_accepted_130 c50 M x1 x2 x4 x5 x6 (pm M h s) = lft M h (gX10_accepted_130 k50 x1 x2 x4 x5 x6 s) := by
  unfold fX10_accepted_130 gX10_accepted_130
  simp only [bd_some, onR_some, bd2_lft, lft_bd, lft_bdm, lft_ite, lft_some, lft_none, pm_kd hw, hk50]
set_option maxRecDepth 100000 in
set_option maxHeartbeats 4000000 in
theorem eX10_accepted_98 {M : Nat} {h : Hp} (hw : MW M h) (k67 : Int32 → Int32 → Int32 → Int32 → Int32 → Int32 → Int32 → MS → Option (Unit × MS)) (c67 : Nat → Int32 → Int32 → Int32 → Int32 → Int32 → Int32 → Int32 → Hp → Option (Unit × Hp)) (hk67 : ∀ (x1 : Int32) (x2 : Int32) (x4 : Int32) (x5 : Int32) (x6 : Int32) (x7 : Int32) (x8 : Int32) (s : MS), c67 M x1 x2 x4 x5 x6 x7 x8 (pm M h s) = lft M h (k67 x1 x2 x4 x5 x6 x7 x8 s)) (x1 : Int32) (x2 : Int32) (x4 : Int32) (x5 : Int32) (x6 : Int32) (x7 : Int32) (x8 : Int32) (s : MS) : fX10_accepted_98 c67 M x1 x2 x4 x5 x6 x7 x8 (pm M h s) = lft M h (gX10_accepted_98 k67 x1 x2 x4 x5 x6 x7 x8 s) := by
  unfold fX10_accepted_98 gX10_accepted_98
  simp only [bd_some, onR_some, bd2_lft, lft_bd, lft_bdm, lft_ite, lft_some, lft_none, pm_kd hw, hk67]
set_option maxRecDepth 100000 in
set_option maxHeartbeats 4000000 in
theorem eX10_accepted_67_body {M : Nat} {h : Hp} (hw : MW M h) (k50 : Int32 → Int32 → Int32 → Int32 → Int32 → MS → Option (Unit × MS)) (c50 : Nat → Int32 → Int32 → Int32 → Int32 → Int32 → Hp → Option (Unit × Hp)) (hk50 : ∀ (x1 : Int32) (x2 : Int32) (x4 : Int32) (x5 : Int32) (x6 : Int32) (s : MS), c50 M x1 x2 x4 x5 x6 (pm M h s) = lft M h (k50 x1 x2 x4 x5 x6 s)) (c67 : Nat → Int32 → Int32 → Int32 → Int32 → Int32 → Int32 → Int32 → Hp → Option (Unit × Hp)) (k67 : Int32 → Int32 → Int32 → Int32 → Int32 → Int32 → Int32 → MS → Option (Unit × MS)) (hk67 : ∀ (x1 : Int32) (x2 : Int32) (x4 : Int32) (x5 : Int32) (x6 : Int32) (x7 : Int32) (x8 : Int32) (s : MS), c67 M x1 x2 x4 x5 x6 x7 x8 (pm M h s) = lft M h (k67 x1 x2 x4 x5 x6 x7 x8 s)) (x1 : Int32) (x2 : Int32) (x4 : Int32) (x5 : Int32) (x6 : Int32) (x7 : Int32) (x8 : Int32) (s : MS) : fX10_accepted_67_body c50 c67 M x1 x2 x4 x5 x6 x7 x8 (pm M h s) = lft M h (gX10_accepted_67_body k50 k67 x1 x2 x4 x5 x6 x7 x8 s) := by
  unfold fX10_accepted_67_body gX10_accepted_67_body
  simp only [bd_some, onR_some, bd2_lft, lft_bd, lft_bdm, lft_ite, lft_some, lft_none, pm_kd hw, qR12 hw, qR2 hw, ql12 hw, ql2 hw, qs12 hw, qs2 hw, qz12 hw, qz2 hw, eX10_accepted_98 hw k67 c67 hk67, eX10_accepted_130 hw k50 c50 hk50, eX10_termAt hw, hk50, hk67]
set_option maxRecDepth 100000 in
set_option maxHeartbeats 4000000 in
theorem eX10_accepted_67 {M : Nat} {h : Hp} (hw : MW M h) (k50 : Int32 → Int32 → Int32 → Int32 → Int32 → MS → Option (Unit × MS)) (c50 : Nat → Int32 → Int32 → Int32 → Int32 → Int32 → Hp → Option (Unit × Hp)) (hk50 : ∀ (x1 : Int32) (x2 : Int32) (x4 : Int32) (x5 : Int32) (x6 : Int32) (s : MS), c50 M x1 x2 x4 x5 x6 (pm M h s) = lft M h (k50 x1 x2 x4 x5 x6 s)) : ∀ (n : Nat) (x1 : Int32) (x2 : Int32) (x4 : Int32) (x5 : Int32) (x6 : Int32) (x7 : Int32) (x8 : Int32)  (s : MS), fX10_accepted_67 c50 n M x1 x2 x4 x5 x6 x7 x8 (pm M h s) = lft M h (gX10_accepted_67 k50 n x1 x2 x4 x5 x6 x7 x8 s) := by
  intro n
  induction n with
  | zero => intros; rfl
  | succ n ih => exact eX10_accepted_67_body hw k50 c50 hk50 _ _ ih
set_option maxRecDepth 100000 in
set_option maxHeartbeats 4000000 in
theorem eX10_accepted_50_body {M : Nat} {h : Hp} (hw : MW M h) (c50 : Nat → Int32 → Int32 → Int32 → Int32 → Int32 → Hp → Option (Unit × Hp)) (k50 : Int32 → Int32 → Int32 → Int32 → Int32 → MS → Option (Unit × MS)) (hk50 : ∀ (x1 : Int32) (x2 : Int32) (x4 : Int32) (x5 : Int32) (x6 : Int32) (s : MS), c50 M x1 x2 x4 x5 x6 (pm M h s) = lft M h (k50 x1 x2 x4 x5 x6 s)) (x1 : Int32) (x2 : Int32) (x4 : Int32) (x5 : Int32) (x6 : Int32) (s : MS) : fX10_accepted_50_body c50 M x1 x2 x4 x5 x6 (pm M h s) = lft M h (gX10_accepted_50_body k50 x1 x2 x4 x5 x6 s) := by
  unfold fX10_accepted_50_body gX10_accepted_50_body
  simp only [bd_some, onR_some, bd2_lft, lft_bd, lft_bdm, lft_ite, lft_some, lft_none, pm_kd hw, qR11 hw, qR5 hw, qR6 hw, ql11 hw, ql5 hw, ql6 hw, qs11 hw, qs5 hw, qs6 hw, qz11 hw, qz5 hw, qz6 hw, eX10_accepted_67 hw k50 c50 hk50, eX10_send hw, hk50]
set_option maxRecDepth 100000 in
set_option maxHeartbeats 4000000 in
theorem eX10_accepted_50 {M : Nat} {h : Hp} (hw : MW M h) : ∀ (n : Nat) (x1 : Int32) (x2 : Int32) (x4 : Int32) (x5 : Int32) (x6 : Int32)  (s : MS), fX10_accepted_50 n M x1 x2 x4 x5 x6 (pm M h s) = lft M h (gX10_accepted_50 n x1 x2 x4 x5 x6 s) := by
  intro n
  induction n with
  | zero => intros; rfl
  | succ n ih => exact eX10_accepted_50_body hw _ _ ih
set_option maxRecDepth 100000 in
set_option maxHeartbeats 4000000 in
theorem eX10_accepted_36 {M : Nat} {h : Hp} (hw : MW M h) (x1 : Int32) (x2 : Int32) (x4 : Int32) (s : MS) : fX10_accepted_36 M x1 x2 x4 (pm M h s) = lft M h (gX10_accepted_36 x1 x2 x4 s) := by
  unfold fX10_accepted_36 gX10_accepted_36
  simp only [bd_some, onR_some, bd2_lft, lft_bd, lft_bdm, lft_ite, lft_some, lft_none, pm_kd hw, qR6 hw, ql6 hw, qs6 hw, qz6 hw, eX10_accepted_50 hw]
set_option maxRecDepth 100000 in
set_option maxHeartbeats 4000000 in
theorem eX10_accepted {M : Nat} {h : Hp} (hw : MW M h) (x1 : Int32) (x2 : Int32) (x3 : Int32) (s : MS) : fX10_accepted M x1 x2 x3 (pm M h s) = lft M h (gX10_accepted x1 x2 x3 s) := by
  unfold fX10_accepted gX10_accepted
  simp only [bd_some, onR_some, bd2_lft, lft_bd, lft_bdm, lft_ite, lft_some, lft_none, pm_kd hw, qR11 hw, qR12 hw, ql11 hw, ql12 hw, qs11 hw, qs12 hw, qz11 hw, qz12 hw, eX10_accepted_36 hw]
set_option maxRecDepth 100000 in
set_option maxHeartbeats 4000000 in
theorem eX10_down {M : Nat} {h : Hp} (hw : MW M h) (x1 : Int32) (s : MS) : fX10_down M x1 (pm M h s) = lft M h (gX10_down x1 s) := by
  unfold fX10_down gX10_down
  simp only [bd_some, onR_some, bd2_lft, lft_bd, lft_bdm, lft_ite, lft_some, lft_none, pm_kd hw, qR1 hw, qR10 hw, qR8 hw, ql1 hw, ql10 hw, ql8 hw, qs1 hw, qs10 hw, qs8 hw, qz1 hw, qz10 hw, qz8 hw]
set_option maxRecDepth 100000 in
set_option maxHeartbeats 4000000 in
theorem eX10_record {M : Nat} {h : Hp} (hw : MW M h) (x1 : Int32) (s : MS) : fX10_record M x1 (pm M h s) = lft M h (gX10_record x1 s) := by
  unfold fX10_record gX10_record
  simp only [bd_some, onR_some, bd2_lft, lft_bd, lft_bdm, lft_ite, lft_some, lft_none, pm_kd hw, qR10 hw, ql10 hw, qs10 hw, qz10 hw, eX10_down hw]
set_option maxRecDepth 100000 in
set_option maxHeartbeats 4000000 in
theorem eX10_comes_13_body {M : Nat} {h : Hp} (hw : MW M h) (c13 : Nat → Int32 → Int32 → Nat → Int32 → Int32 → Hp → Option (Int32 × Hp)) (k13 : Int32 → Int32 → Nat → Int32 → Int32 → MS → Option (Int32 × MS)) (hk13 : ∀ (x1 : Int32) (x2 : Int32) (x3 : Nat) (x4 : Int32) (x5 : Int32) (_ : 1 ≤ x3 ∧ x3 ≤ 38) (s : MS), c13 M x1 x2 (M + x3) x4 x5 (pm M h s) = lft M h (k13 x1 x2 x3 x4 x5 s)) (x1 : Int32) (x2 : Int32) (x3 : Nat) (x4 : Int32) (x5 : Int32) (hAx3 : 1 ≤ x3 ∧ x3 ≤ 38) (s : MS) : fX10_comes_13_body c13 M x1 x2 (M + x3) x4 x5 (pm M h s) = lft M h (gX10_comes_13_body k13 x1 x2 x3 x4 x5 s) := by
  unfold fX10_comes_13_body gX10_comes_13_body
  simp only [bd_some, onR_some, bd2_lft, lft_bd, lft_bdm, lft_ite, lft_some, lft_none, pm_kd hw, qR13 hw, qR5 hw, ql13 hw, ql5 hw, qs13 hw, qs5 hw, qz13 hw, qz5 hw, eX10_at hw, pm_ld hw _ _ _ _ hAx3, hAx3, hk13 _ _ _ _ _ hAx3]
set_option maxRecDepth 100000 in
set_option maxHeartbeats 4000000 in
theorem eX10_comes_13 {M : Nat} {h : Hp} (hw : MW M h) : ∀ (n : Nat) (x1 : Int32) (x2 : Int32) (x3 : Nat) (x4 : Int32) (x5 : Int32) (_ : 1 ≤ x3 ∧ x3 ≤ 38) (s : MS), fX10_comes_13 n M x1 x2 (M + x3) x4 x5 (pm M h s) = lft M h (gX10_comes_13 n x1 x2 x3 x4 x5 s) := by
  intro n
  induction n with
  | zero => intros; rfl
  | succ n ih => exact eX10_comes_13_body hw _ _ ih
set_option maxRecDepth 100000 in
set_option maxHeartbeats 4000000 in
theorem eX10_comes {M : Nat} {h : Hp} (hw : MW M h) (x1 : Int32) (x2 : Int32) (x3 : Nat) (x4 : Int32) (hAx3 : 1 ≤ x3 ∧ x3 ≤ 38) (s : MS) : fX10_comes M x1 x2 (M + x3) x4 (pm M h s) = lft M h (gX10_comes x1 x2 x3 x4 s) := by
  unfold fX10_comes gX10_comes
  simp only [bd_some, onR_some, bd2_lft, lft_bd, lft_bdm, lft_ite, lft_some, lft_none, pm_kd hw, eX10_record hw, eX10_comes_13 hw _ _ _ _ _ _ hAx3, pm_ld hw _ _ _ _ hAx3, hAx3]
set_option maxRecDepth 100000 in
set_option maxHeartbeats 4000000 in
theorem eX10_adds {M : Nat} {h : Hp} (hw : MW M h) (x1 : Int32) (x2 : Int32) (x3 : Int32) (x4 : Int32) (x5 : Int32) (x6 : Int32) (x7 : Int32) (x8 : Int32) (s : MS) : fX10_adds M x1 x2 x3 x4 x5 x6 x7 x8 (pm M h s) = lft M h (gX10_adds x1 x2 x3 x4 x5 x6 x7 x8 s) := by
  unfold fX10_adds gX10_adds
  simp only [bd_some, onR_some, bd2_lft, lft_bd, lft_bdm, lft_ite, lft_some, lft_none, pm_kd hw, qR2 hw, qR32 hw, qR5 hw, ql2 hw, ql26 hw, ql5 hw, qs2 hw, qs26 hw, qs5 hw, qz2 hw, qz26 hw, qz5 hw, eX10_comes hw _ _ 26 _ (by decide), eX10_comes hw _ _ 23 _ (by decide)]
set_option maxRecDepth 100000 in
set_option maxHeartbeats 4000000 in
theorem eX10_answer {M : Nat} {h : Hp} (hw : MW M h) (x1 : Int32) (x2 : Int32) (x3 : Int32) (x4 : Int32) (s : MS) : fX10_answer M x1 x2 x3 x4 (pm M h s) = lft M h (gX10_answer x1 x2 x3 x4 s) := by
  unfold fX10_answer gX10_answer
  simp only [bd_some, onR_some, bd2_lft, lft_bd, lft_bdm, lft_ite, lft_some, lft_none, pm_kd hw, qR19 hw, ql19 hw, qs19 hw, qz19 hw, eX10_made hw]
set_option maxRecDepth 100000 in
set_option maxHeartbeats 4000000 in
theorem eX10_appends_225 {M : Nat} {h : Hp} (hw : MW M h) (k152 : Int32 → Int32 → Int32 → Int32 → Int32 → MS → Option (Unit × MS)) (c152 : Nat → Int32 → Int32 → Int32 → Int32 → Int32 → Hp → Option (Unit × Hp)) (hk152 : ∀ (x1 : Int32) (x2 : Int32) (x3 : Int32) (x7 : Int32) (x8 : Int32) (s : MS), c152 M x1 x2 x3 x7 x8 (pm M h s) = lft M h (k152 x1 x2 x3 x7 x8 s)) (x1 : Int32) (x2 : Int32) (x3 : Int32) (x7 : Int32) (x8 : Int32) (s : MS) : fX10_appends_225 c152 M x1 x2 x3 x7 x8 (pm M h s) = lft M h (gX10_appends_225 k152 x1 x2 x3 x7 x8 s) := by
  unfold fX10_appends_225 gX10_appends_225
  simp only [bd_some, onR_some, bd2_lft, lft_bd, lft_bdm, lft_ite, lft_some, lft_none, pm_kd hw, hk152]
set_option maxRecDepth 100000 in
set_option maxHeartbeats 4000000 in
theorem eX10_appends_208 {M : Nat} {h : Hp} (hw : MW M h) (k152 : Int32 → Int32 → Int32 → Int32 → Int32 → MS → Option (Unit × MS)) (c152 : Nat → Int32 → Int32 → Int32 → Int32 → Int32 → Hp → Option (Unit × Hp)) (hk152 : ∀ (x1 : Int32) (x2 : Int32) (x3 : Int32) (x7 : Int32) (x8 : Int32) (s : MS), c152 M x1 x2 x3 x7 x8 (pm M h s) = lft M h (k152 x1 x2 x3 x7 x8 s)) (x1 : Int32) (x2 : Int32) (x3 : Int32) (x7 : Int32) (x8 : Int32) (x9 : Int32) (s : MS) : fX10_appends_208 c152 M x1 x2 x3 x7 x8 x9 (pm M h s) = lft M h (gX10_appends_208 k152 x1 x2 x3 x7 x8 x9 s) := by
  unfold fX10_appends_208 gX10_appends_208
  simp only [bd_some, onR_some, bd2_lft, lft_bd, lft_bdm, lft_ite, lft_some, lft_none, pm_kd hw, qR23 hw, ql23 hw, qs23 hw, qz23 hw, eX10_comes hw _ _ 26 _ (by decide), eX10_comes hw _ _ 23 _ (by decide), eX10_appends_225 hw k152 c152 hk152, hk152]
set_option maxRecDepth 100000 in
set_option maxHeartbeats 4000000 in
theorem eX10_appends_152_body {M : Nat} {h : Hp} (hw : MW M h) (c152 : Nat → Int32 → Int32 → Int32 → Int32 → Int32 → Hp → Option (Unit × Hp)) (k152 : Int32 → Int32 → Int32 → Int32 → Int32 → MS → Option (Unit × MS)) (hk152 : ∀ (x1 : Int32) (x2 : Int32) (x3 : Int32) (x7 : Int32) (x8 : Int32) (s : MS), c152 M x1 x2 x3 x7 x8 (pm M h s) = lft M h (k152 x1 x2 x3 x7 x8 s)) (x1 : Int32) (x2 : Int32) (x3 : Int32) (x7 : Int32) (x8 : Int32) (s : MS) : fX10_appends_152_body c152 M x1 x2 x3 x7 x8 (pm M h s) = lft M h (gX10_appends_152_body k152 x1 x2 x3 x7 x8 s) := by
  unfold fX10_appends_152_body gX10_appends_152_body
  simp only [bd_some, onR_some, bd2_lft, lft_bd, lft_bdm, lft_ite, lft_some, lft_none, pm_kd hw, qR21 hw, qR22 hw, qR23 hw, qR4 hw, qR5 hw, qR6 hw, ql21 hw, ql22 hw, ql23 hw, ql4 hw, ql5 hw, ql6 hw, qs21 hw, qs22 hw, qs23 hw, qs4 hw, qs5 hw, qs6 hw, qz21 hw, qz22 hw, qz23 hw, qz4 hw, qz5 hw, qz6 hw, eX10_appends_208 hw k152 c152 hk152, eX10_termAt hw, eX10_appends_225 hw k152 c152 hk152, eX10_answer hw, hk152]
set_option maxRecDepth 100000 in
set_option maxHeartbeats 4000000 in
theorem eX10_appends_152 {M : Nat} {h : Hp} (hw : MW M h) : ∀ (n : Nat) (x1 : Int32) (x2 : Int32) (x3 : Int32) (x7 : Int32) (x8 : Int32)  (s : MS), fX10_appends_152 n M x1 x2 x3 x7 x8 (pm M h s) = lft M h (gX10_appends_152 n x1 x2 x3 x7 x8 s) := by
  intro n
  induction n with
  | zero => intros; rfl
  | succ n ih => exact eX10_appends_152_body hw _ _ ih
set_option maxRecDepth 100000 in
set_option maxHeartbeats 4000000 in
theorem eX10_appends_144 {M : Nat} {h : Hp} (hw : MW M h) (x1 : Int32) (x2 : Int32) (x3 : Int32) (x4 : Int32) (x5 : Int32) (s : MS) : fX10_appends_144 M x1 x2 x3 x4 x5 (pm M h s) = lft M h (gX10_appends_144 x1 x2 x3 x4 x5 s) := by
  unfold fX10_appends_144 gX10_appends_144
  simp only [bd_some, onR_some, bd2_lft, lft_bd, lft_bdm, lft_ite, lft_some, lft_none, pm_kd hw, eX10_appends_152 hw]
set_option maxRecDepth 100000 in
set_option maxHeartbeats 4000000 in
theorem eX10_appends_86 {M : Nat} {h : Hp} (hw : MW M h) (x1 : Int32) (x2 : Int32) (x3 : Int32) (x4 : Int32) (x5 : Int32) (x6 : Int32) (s : MS) : fX10_appends_86 M x1 x2 x3 x4 x5 x6 (pm M h s) = lft M h (gX10_appends_86 x1 x2 x3 x4 x5 x6 s) := by
  unfold fX10_appends_86 gX10_appends_86
  simp only [bd_some, onR_some, bd2_lft, lft_bd, lft_bdm, lft_ite, lft_some, lft_none, pm_kd hw, qR20 hw, qR5 hw, ql20 hw, ql5 hw, qs20 hw, qs5 hw, qz20 hw, qz5 hw, eX10_answer hw, eX10_appends_144 hw, eX10_termAt hw]
set_option maxRecDepth 100000 in
set_option maxHeartbeats 4000000 in
theorem eX10_appends_67 {M : Nat} {h : Hp} (hw : MW M h) (x1 : Int32) (x2 : Int32) (x3 : Int32) (x4 : Int32) (x5 : Int32) (x6 : Int32) (s : MS) : fX10_appends_67 M x1 x2 x3 x4 x5 x6 (pm M h s) = lft M h (gX10_appends_67 x1 x2 x3 x4 x5 x6 s) := by
  unfold fX10_appends_67 gX10_appends_67
  simp only [bd_some, onR_some, bd2_lft, lft_bd, lft_bdm, lft_ite, lft_some, lft_none, pm_kd hw, qR4 hw, ql4 hw, qs4 hw, qz4 hw, eX10_appends_86 hw]
set_option maxRecDepth 100000 in
set_option maxHeartbeats 4000000 in
theorem eX10_appends_36_body {M : Nat} {h : Hp} (hw : MW M h) (c36 : Nat → Int32 → Int32 → Int32 → Int32 → Int32 → Int32 → Hp → Option (Unit × Hp)) (k36 : Int32 → Int32 → Int32 → Int32 → Int32 → Int32 → MS → Option (Unit × MS)) (hk36 : ∀ (x1 : Int32) (x2 : Int32) (x3 : Int32) (x4 : Int32) (x5 : Int32) (x6 : Int32) (s : MS), c36 M x1 x2 x3 x4 x5 x6 (pm M h s) = lft M h (k36 x1 x2 x3 x4 x5 x6 s)) (x1 : Int32) (x2 : Int32) (x3 : Int32) (x4 : Int32) (x5 : Int32) (x6 : Int32) (s : MS) : fX10_appends_36_body c36 M x1 x2 x3 x4 x5 x6 (pm M h s) = lft M h (gX10_appends_36_body k36 x1 x2 x3 x4 x5 x6 s) := by
  unfold fX10_appends_36_body gX10_appends_36_body
  simp only [bd_some, onR_some, bd2_lft, lft_bd, lft_bdm, lft_ite, lft_some, lft_none, pm_kd hw, qR21 hw, qR4 hw, ql21 hw, ql4 hw, qs21 hw, qs4 hw, qz21 hw, qz4 hw, eX10_appends_67 hw, hk36]
set_option maxRecDepth 100000 in
set_option maxHeartbeats 4000000 in
theorem eX10_appends_36 {M : Nat} {h : Hp} (hw : MW M h) : ∀ (n : Nat) (x1 : Int32) (x2 : Int32) (x3 : Int32) (x4 : Int32) (x5 : Int32) (x6 : Int32)  (s : MS), fX10_appends_36 n M x1 x2 x3 x4 x5 x6 (pm M h s) = lft M h (gX10_appends_36 n x1 x2 x3 x4 x5 x6 s) := by
  intro n
  induction n with
  | zero => intros; rfl
  | succ n ih => exact eX10_appends_36_body hw _ _ ih
set_option maxRecDepth 100000 in
set_option maxHeartbeats 4000000 in
theorem eX10_appends_34 {M : Nat} {h : Hp} (hw : MW M h) (x1 : Int32) (x2 : Int32) (x3 : Int32) (x4 : Int32) (x5 : Int32) (y0 : Int32) (s : MS) : fX10_appends_34 M x1 x2 x3 x4 x5 y0 (pm M h s) = lft M h (gX10_appends_34 x1 x2 x3 x4 x5 y0 s) := by
  unfold fX10_appends_34 gX10_appends_34
  simp only [bd_some, onR_some, bd2_lft, lft_bd, lft_bdm, lft_ite, lft_some, lft_none, pm_kd hw, eX10_appends_36 hw]
set_option maxRecDepth 100000 in
set_option maxHeartbeats 4000000 in
theorem eX10_appends {M : Nat} {h : Hp} (hw : MW M h) (x1 : Int32) (x2 : Int32) (x3 : Int32) (s : MS) : fX10_appends M x1 x2 x3 (pm M h s) = lft M h (gX10_appends x1 x2 x3 s) := by
  unfold fX10_appends gX10_appends
  simp only [bd_some, onR_some, bd2_lft, lft_bd, lft_bdm, lft_ite, lft_some, lft_none, pm_kd hw, qR19 hw, qR4 hw, qR8 hw, ql19 hw, ql4 hw, ql8 hw, qs19 hw, qs4 hw, qs8 hw, qz19 hw, qz4 hw, qz8 hw, eX10_appends_34 hw]
set_option maxRecDepth 100000 in
set_option maxHeartbeats 4000000 in
theorem eX10_asked_122 {M : Nat} {h : Hp} (hw : MW M h) (y0 : Int32) (y1 : Int32) (y2 : Int32) (y3 : Int32) (s : MS) : fX10_asked_122 y0 y1 y2 y3 M (pm M h s) = lft M h (gX10_asked_122 y0 y1 y2 y3 s) := by
  unfold fX10_asked_122 gX10_asked_122
  simp only [bd_some, onR_some, bd2_lft, lft_bd, lft_bdm, lft_ite, lft_some, lft_none, pm_kd hw, eX10_answer hw]
set_option maxRecDepth 100000 in
set_option maxHeartbeats 4000000 in
theorem eX10_asked_108 {M : Nat} {h : Hp} (hw : MW M h) (x2 : Int32) (x3 : Int32) (x5 : Int32) (s : MS) : fX10_asked_108 M x2 x3 x5 (pm M h s) = lft M h (gX10_asked_108 x2 x3 x5 s) := by
  unfold fX10_asked_108 gX10_asked_108
  simp only [bd_some, onR_some, bd2_lft, lft_bd, lft_bdm, lft_ite, lft_some, lft_none, pm_kd hw, eX10_asked_122 hw]
set_option maxRecDepth 100000 in
set_option maxHeartbeats 4000000 in
theorem eX10_asked_75 {M : Nat} {h : Hp} (hw : MW M h) (x2 : Int32) (x3 : Int32) (y0 : Int32) (s : MS) : fX10_asked_75 M x2 x3 y0 (pm M h s) = lft M h (gX10_asked_75 x2 x3 y0 s) := by
  unfold fX10_asked_75 gX10_asked_75
  simp only [bd_some, onR_some, bd2_lft, lft_bd, lft_bdm, lft_ite, lft_some, lft_none, pm_kd hw, qR3 hw, ql3 hw, qs3 hw, qz3 hw, eX10_asked_108 hw, eX10_record hw]
set_option maxRecDepth 100000 in
set_option maxHeartbeats 4000000 in
theorem eX10_asked_74 {M : Nat} {h : Hp} (hw : MW M h) (x2 : Int32) (x3 : Int32) (s : MS) : fX10_asked_74 M x2 x3 (pm M h s) = lft M h (gX10_asked_74 x2 x3 s) := by
  unfold fX10_asked_74 gX10_asked_74
  simp only [bd_some, onR_some, bd2_lft, lft_bd, lft_bdm, lft_ite, lft_some, lft_none, pm_kd hw, eX10_asked_75 hw]
set_option maxRecDepth 100000 in
set_option maxHeartbeats 4000000 in
theorem eX10_asked_70 {M : Nat} {h : Hp} (hw : MW M h) (x2 : Int32) (x3 : Int32) (s : MS) : fX10_asked_70 M x2 x3 (pm M h s) = lft M h (gX10_asked_70 x2 x3 s) := by
  unfold fX10_asked_70 gX10_asked_70
  simp only [bd_some, onR_some, bd2_lft, lft_bd, lft_bdm, lft_ite, lft_some, lft_none, pm_kd hw, eX10_asked_75 hw]
set_option maxRecDepth 100000 in
set_option maxHeartbeats 4000000 in
theorem eX10_asked_33 {M : Nat} {h : Hp} (hw : MW M h) (x1 : Int32) (x2 : Int32) (x3 : Int32) (x4 : Int32) (s : MS) : fX10_asked_33 M x1 x2 x3 x4 (pm M h s) = lft M h (gX10_asked_33 x1 x2 x3 x4 s) := by
  unfold fX10_asked_33 gX10_asked_33
  simp only [bd_some, onR_some, bd2_lft, lft_bd, lft_bdm, lft_ite, lft_some, lft_none, pm_kd hw, qR19 hw, qR20 hw, qR5 hw, ql19 hw, ql20 hw, ql5 hw, qs19 hw, qs20 hw, qs5 hw, qz19 hw, qz20 hw, qz5 hw, eX10_asked_70 hw, eX10_asked_74 hw]
set_option maxRecDepth 100000 in
set_option maxHeartbeats 4000000 in
theorem eX10_asked {M : Nat} {h : Hp} (hw : MW M h) (x1 : Int32) (x2 : Int32) (x3 : Int32) (s : MS) : fX10_asked M x1 x2 x3 (pm M h s) = lft M h (gX10_asked x1 x2 x3 s) := by
  unfold fX10_asked gX10_asked
  simp only [bd_some, onR_some, bd2_lft, lft_bd, lft_bdm, lft_ite, lft_some, lft_none, pm_kd hw, qR3 hw, qR5 hw, ql3 hw, ql5 hw, qs3 hw, qs5 hw, qz3 hw, qz5 hw, eX10_termAt hw, eX10_asked_33 hw, eX10_asked_74 hw]
set_option maxRecDepth 100000 in
set_option maxHeartbeats 4000000 in
theorem eX10_bad {M : Nat} {h : Hp} (hw : MW M h) (x1 : Int32) (x2 : Int32) (s : MS) : fX10_bad M x1 x2 (pm M h s) = lft M h (gX10_bad x1 x2 s) := by
  unfold fX10_bad gX10_bad
  simp only [bd_some, onR_some, bd2_lft, lft_bd, lft_bdm, lft_ite, lft_some, lft_none, pm_kd hw, qp0 hw]
set_option maxRecDepth 100000 in
set_option maxHeartbeats 4000000 in
theorem eX10_isNode {M : Nat} {h : Hp} (hw : MW M h) (x0 : Int32) (s : MS) : fX10_isNode x0 (pm M h s) = lft M h (gX10_isNode x0 s) := by
  unfold fX10_isNode gX10_isNode
  simp only [bd_some, onR_some, bd2_lft, lft_bd, lft_bdm, lft_ite, lft_some, lft_none, pm_kd hw]
set_option maxRecDepth 100000 in
set_option maxHeartbeats 4000000 in
theorem eX10_sendAll_18 {M : Nat} {h : Hp} (hw : MW M h) (k2 : Int32 → Int32 → MS → Option (Unit × MS)) (c2 : Nat → Int32 → Int32 → Hp → Option (Unit × Hp)) (hk2 : ∀ (x1 : Int32) (x2 : Int32) (s : MS), c2 M x1 x2 (pm M h s) = lft M h (k2 x1 x2 s)) (x1 : Int32) (x2 : Int32) (s : MS) : fX10_sendAll_18 c2 M x1 x2 (pm M h s) = lft M h (gX10_sendAll_18 k2 x1 x2 s) := by
  unfold fX10_sendAll_18 gX10_sendAll_18
  simp only [bd_some, onR_some, bd2_lft, lft_bd, lft_bdm, lft_ite, lft_some, lft_none, pm_kd hw, hk2]
set_option maxRecDepth 100000 in
set_option maxHeartbeats 4000000 in
theorem eX10_sendAll_2_body {M : Nat} {h : Hp} (hw : MW M h) (c2 : Nat → Int32 → Int32 → Hp → Option (Unit × Hp)) (k2 : Int32 → Int32 → MS → Option (Unit × MS)) (hk2 : ∀ (x1 : Int32) (x2 : Int32) (s : MS), c2 M x1 x2 (pm M h s) = lft M h (k2 x1 x2 s)) (x1 : Int32) (x2 : Int32) (s : MS) : fX10_sendAll_2_body c2 M x1 x2 (pm M h s) = lft M h (gX10_sendAll_2_body k2 x1 x2 s) := by
  unfold fX10_sendAll_2_body gX10_sendAll_2_body
  simp only [bd_some, onR_some, bd2_lft, lft_bd, lft_bdm, lft_ite, lft_some, lft_none, pm_kd hw, eX10_sendAll_18 hw k2 c2 hk2, eX10_send hw, hk2]
set_option maxRecDepth 100000 in
set_option maxHeartbeats 4000000 in
theorem eX10_sendAll_2 {M : Nat} {h : Hp} (hw : MW M h) : ∀ (n : Nat) (x1 : Int32) (x2 : Int32)  (s : MS), fX10_sendAll_2 n M x1 x2 (pm M h s) = lft M h (gX10_sendAll_2 n x1 x2 s) := by
  intro n
  induction n with
  | zero => intros; rfl
  | succ n ih => exact eX10_sendAll_2_body hw _ _ ih
set_option maxRecDepth 100000 in
set_option maxHeartbeats 4000000 in
theorem eX10_sendAll {M : Nat} {h : Hp} (hw : MW M h) (x1 : Int32) (s : MS) : fX10_sendAll M x1 (pm M h s) = lft M h (gX10_sendAll x1 s) := by
  unfold fX10_sendAll gX10_sendAll
  simp only [bd_some, onR_some, bd2_lft, lft_bd, lft_bdm, lft_ite, lft_some, lft_none, pm_kd hw, eX10_sendAll_2 hw]
set_option maxRecDepth 100000 in
set_option maxHeartbeats 4000000 in
theorem eX10_beat_45 {M : Nat} {h : Hp} (hw : MW M h) (x1 : Int32) (y0 : Int32) (s : MS) : fX10_beat_45 M x1 y0 M (pm M h s) = lft M h (gX10_beat_45 x1 y0 s) := by
  unfold fX10_beat_45 gX10_beat_45
  simp only [bd_some, onR_some, bd2_lft, lft_bd, lft_bdm, lft_ite, lft_some, lft_none, pm_kd hw, qg24 hw, eX10_bad hw, eX10_sendAll hw]
set_option maxRecDepth 100000 in
set_option maxHeartbeats 4000000 in
theorem eX10_beat_40 {M : Nat} {h : Hp} (hw : MW M h) (x1 : Int32) (s : MS) : fX10_beat_40 M x1 M (pm M h s) = lft M h (gX10_beat_40 x1 s) := by
  unfold fX10_beat_40 gX10_beat_40
  simp only [bd_some, onR_some, bd2_lft, lft_bd, lft_bdm, lft_ite, lft_some, lft_none, pm_kd hw, eX10_beat_45 hw]
set_option maxRecDepth 100000 in
set_option maxHeartbeats 4000000 in
theorem eX10_beat_13 {M : Nat} {h : Hp} (hw : MW M h) (x1 : Int32) (y0 : Int32) (s : MS) : fX10_beat_13 M x1 y0 M (pm M h s) = lft M h (gX10_beat_13 x1 y0 s) := by
  unfold fX10_beat_13 gX10_beat_13
  simp only [bd_some, onR_some, bd2_lft, lft_bd, lft_bdm, lft_ite, lft_some, lft_none, pm_kd hw, qR1 hw, qR8 hw, ql1 hw, ql8 hw, qs1 hw, qs8 hw, qz1 hw, qz8 hw, eX10_bad hw, eX10_beat_40 hw, eX10_beat_45 hw]
set_option maxRecDepth 100000 in
set_option maxHeartbeats 4000000 in
theorem eX10_beat {M : Nat} {h : Hp} (hw : MW M h) (x1 : Int32) (s : MS) : fX10_beat M x1 (pm M h s) = lft M h (gX10_beat x1 s) := by
  unfold fX10_beat gX10_beat
  simp only [bd_some, onR_some, bd2_lft, lft_bd, lft_bdm, lft_ite, lft_some, lft_none, pm_kd hw, eX10_isNode hw, eX10_beat_13 hw]
set_option maxRecDepth 100000 in
set_option maxHeartbeats 4000000 in
theorem eX10_check {M : Nat} {h : Hp} (hw : MW M h) (s : MS) : fX10_check M (pm M h s) = lft M h (gX10_check  s) := by
  unfold fX10_check gX10_check
  simp only [bd_some, onR_some, bd2_lft, lft_bd, lft_bdm, lft_ite, lft_some, lft_none, pm_kd hw, qp0 hw]
set_option maxRecDepth 100000 in
set_option maxHeartbeats 4000000 in
theorem eX10_coded {M : Nat} {h : Hp} (hw : MW M h) (x1 : Int32) (s : MS) : fX10_coded M x1 (pm M h s) = lft M h (gX10_coded x1 s) := by
  unfold fX10_coded gX10_coded
  simp only [bd_some, onR_some, bd2_lft, lft_bd, lft_bdm, lft_ite, lft_some, lft_none, pm_kd hw, qR43 hw, qR44 hw, qR45 hw, qR46 hw, ql34 hw, ql35 hw, ql36 hw, ql37 hw, qs34 hw, qs35 hw, qs36 hw, qs37 hw, qz34 hw, qz35 hw, qz36 hw, qz37 hw]
set_option maxRecDepth 100000 in
set_option maxHeartbeats 4000000 in
theorem eX10_counts_130 {M : Nat} {h : Hp} (hw : MW M h) (x1 : Int32) (s : MS) : fX10_counts_130 M x1 (pm M h s) = lft M h (gX10_counts_130 x1 s) := by
  unfold fX10_counts_130 gX10_counts_130
  simp only [bd_some, onR_some, bd2_lft, lft_bd, lft_bdm, lft_ite, lft_some, lft_none, pm_kd hw, eX10_sendAll hw]
set_option maxRecDepth 100000 in
set_option maxHeartbeats 4000000 in
theorem eX10_counts_59_body {M : Nat} {h : Hp} (hw : MW M h) (c59 : Nat → Int32 → Int32 → Hp → Option (Unit × Hp)) (k59 : Int32 → Int32 → MS → Option (Unit × MS)) (hk59 : ∀ (x1 : Int32) (x4 : Int32) (s : MS), c59 M x1 x4 (pm M h s) = lft M h (k59 x1 x4 s)) (x1 : Int32) (x4 : Int32) (s : MS) : fX10_counts_59_body c59 M x1 x4 (pm M h s) = lft M h (gX10_counts_59_body k59 x1 x4 s) := by
  unfold fX10_counts_59_body gX10_counts_59_body
  simp only [bd_some, onR_some, bd2_lft, lft_bd, lft_bdm, lft_ite, lft_some, lft_none, pm_kd hw, qR11 hw, qR12 hw, qR5 hw, ql11 hw, ql12 hw, ql5 hw, qs11 hw, qs12 hw, qs5 hw, qz11 hw, qz12 hw, qz5 hw, eX10_counts_130 hw, eX10_adds hw, hk59]
set_option maxRecDepth 100000 in
set_option maxHeartbeats 4000000 in
theorem eX10_counts_59 {M : Nat} {h : Hp} (hw : MW M h) : ∀ (n : Nat) (x1 : Int32) (x4 : Int32)  (s : MS), fX10_counts_59 n M x1 x4 (pm M h s) = lft M h (gX10_counts_59 n x1 x4 s) := by
  intro n
  induction n with
  | zero => intros; rfl
  | succ n ih => exact eX10_counts_59_body hw _ _ ih
set_option maxRecDepth 100000 in
set_option maxHeartbeats 4000000 in
theorem eX10_counts_17_body {M : Nat} {h : Hp} (hw : MW M h) (c17 : Nat → Int32 → Int32 → Int32 → Hp → Option (Unit × Hp)) (k17 : Int32 → Int32 → Int32 → MS → Option (Unit × MS)) (hk17 : ∀ (x1 : Int32) (x3 : Int32) (x4 : Int32) (s : MS), c17 M x1 x3 x4 (pm M h s) = lft M h (k17 x1 x3 x4 s)) (x1 : Int32) (x3 : Int32) (x4 : Int32) (s : MS) : fX10_counts_17_body c17 M x1 x3 x4 (pm M h s) = lft M h (gX10_counts_17_body k17 x1 x3 x4 s) := by
  unfold fX10_counts_17_body gX10_counts_17_body
  simp only [bd_some, onR_some, bd2_lft, lft_bd, lft_bdm, lft_ite, lft_some, lft_none, pm_kd hw, qR8 hw, qR9 hw, ql8 hw, ql9 hw, qs8 hw, qs9 hw, qz8 hw, qz9 hw, eX10_counts_59 hw, hk17]
set_option maxRecDepth 100000 in
set_option maxHeartbeats 4000000 in
theorem eX10_counts_17 {M : Nat} {h : Hp} (hw : MW M h) : ∀ (n : Nat) (x1 : Int32) (x3 : Int32) (x4 : Int32)  (s : MS), fX10_counts_17 n M x1 x3 x4 (pm M h s) = lft M h (gX10_counts_17 n x1 x3 x4 s) := by
  intro n
  induction n with
  | zero => intros; rfl
  | succ n ih => exact eX10_counts_17_body hw _ _ ih
set_option maxRecDepth 100000 in
set_option maxHeartbeats 4000000 in
theorem eX10_counts {M : Nat} {h : Hp} (hw : MW M h) (x1 : Int32) (x2 : Int32) (s : MS) : fX10_counts M x1 x2 (pm M h s) = lft M h (gX10_counts x1 x2 s) := by
  unfold fX10_counts gX10_counts
  simp only [bd_some, onR_some, bd2_lft, lft_bd, lft_bdm, lft_ite, lft_some, lft_none, pm_kd hw, qR9 hw, ql9 hw, qs9 hw, qz9 hw, eX10_counts_17 hw]
set_option maxRecDepth 100000 in
set_option maxHeartbeats 4000000 in
theorem eX10_crash_35 {M : Nat} {h : Hp} (hw : MW M h) (x1 : Int32) (y0 : Int32) (s : MS) : fX10_crash_35 M x1 y0 M (pm M h s) = lft M h (gX10_crash_35 x1 y0 s) := by
  unfold fX10_crash_35 gX10_crash_35
  simp only [bd_some, onR_some, bd2_lft, lft_bd, lft_bdm, lft_ite, lft_some, lft_none, pm_kd hw, eX10_bad hw, eX10_down hw]
set_option maxRecDepth 100000 in
set_option maxHeartbeats 4000000 in
theorem eX10_crash_13 {M : Nat} {h : Hp} (hw : MW M h) (x1 : Int32) (y0 : Int32) (s : MS) : fX10_crash_13 M x1 y0 M (pm M h s) = lft M h (gX10_crash_13 x1 y0 s) := by
  unfold fX10_crash_13 gX10_crash_13
  simp only [bd_some, onR_some, bd2_lft, lft_bd, lft_bdm, lft_ite, lft_some, lft_none, pm_kd hw, qR1 hw, ql1 hw, qs1 hw, qz1 hw, eX10_bad hw, eX10_crash_35 hw]
set_option maxRecDepth 100000 in
set_option maxHeartbeats 4000000 in
theorem eX10_crash {M : Nat} {h : Hp} (hw : MW M h) (x1 : Int32) (s : MS) : fX10_crash M x1 (pm M h s) = lft M h (gX10_crash x1 s) := by
  unfold fX10_crash gX10_crash
  simp only [bd_some, onR_some, bd2_lft, lft_bd, lft_bdm, lft_ite, lft_some, lft_none, pm_kd hw, eX10_isNode hw, eX10_crash_13 hw]
set_option maxRecDepth 100000 in
set_option maxHeartbeats 4000000 in
theorem eX10_installs_176 {M : Nat} {h : Hp} (hw : MW M h) (x1 : Int32) (x2 : Int32) (x3 : Int32) (s : MS) : fX10_installs_176 M x1 x2 x3 (pm M h s) = lft M h (gX10_installs_176 x1 x2 x3 s) := by
  unfold fX10_installs_176 gX10_installs_176
  simp only [bd_some, onR_some, bd2_lft, lft_bd, lft_bdm, lft_ite, lft_some, lft_none, pm_kd hw, qR14 hw, qR19 hw, qR6 hw, qR7 hw, ql14 hw, ql19 hw, ql6 hw, ql7 hw, qs14 hw, qs19 hw, qs6 hw, qs7 hw, qz14 hw, qz19 hw, qz6 hw, qz7 hw, eX10_answer hw]
set_option maxRecDepth 100000 in
set_option maxHeartbeats 4000000 in
theorem eX10_installs_90_body {M : Nat} {h : Hp} (hw : MW M h) (c90 : Nat → Int32 → Int32 → Int32 → Int32 → Int32 → Hp → Option (Unit × Hp)) (k90 : Int32 → Int32 → Int32 → Int32 → Int32 → MS → Option (Unit × MS)) (hk90 : ∀ (x1 : Int32) (x2 : Int32) (x3 : Int32) (x4 : Int32) (x5 : Int32) (s : MS), c90 M x1 x2 x3 x4 x5 (pm M h s) = lft M h (k90 x1 x2 x3 x4 x5 s)) (x1 : Int32) (x2 : Int32) (x3 : Int32) (x4 : Int32) (x5 : Int32) (s : MS) : fX10_installs_90_body c90 M x1 x2 x3 x4 x5 (pm M h s) = lft M h (gX10_installs_90_body k90 x1 x2 x3 x4 x5 s) := by
  unfold fX10_installs_90_body gX10_installs_90_body
  simp only [bd_some, onR_some, bd2_lft, lft_bd, lft_bdm, lft_ite, lft_some, lft_none, pm_kd hw, qR13 hw, qR19 hw, qR25 hw, qR26 hw, qR4 hw, qR5 hw, ql13 hw, ql19 hw, ql24 hw, ql25 hw, ql4 hw, ql5 hw, qs13 hw, qs19 hw, qs24 hw, qs25 hw, qs4 hw, qs5 hw, qz13 hw, qz19 hw, qz24 hw, qz25 hw, qz4 hw, qz5 hw, eX10_at hw, eX10_installs_176 hw, hk90]
set_option maxRecDepth 100000 in
set_option maxHeartbeats 4000000 in
theorem eX10_installs_90 {M : Nat} {h : Hp} (hw : MW M h) : ∀ (n : Nat) (x1 : Int32) (x2 : Int32) (x3 : Int32) (x4 : Int32) (x5 : Int32)  (s : MS), fX10_installs_90 n M x1 x2 x3 x4 x5 (pm M h s) = lft M h (gX10_installs_90 n x1 x2 x3 x4 x5 s) := by
  intro n
  induction n with
  | zero => intros; rfl
  | succ n ih => exact eX10_installs_90_body hw _ _ ih
set_option maxRecDepth 100000 in
set_option maxHeartbeats 4000000 in
theorem eX10_installs_85 {M : Nat} {h : Hp} (hw : MW M h) (x1 : Int32) (x2 : Int32) (x3 : Int32) (y0 : Int32) (s : MS) : fX10_installs_85 M x1 x2 x3 y0 (pm M h s) = lft M h (gX10_installs_85 x1 x2 x3 y0 s) := by
  unfold fX10_installs_85 gX10_installs_85
  simp only [bd_some, onR_some, bd2_lft, lft_bd, lft_bdm, lft_ite, lft_some, lft_none, pm_kd hw, eX10_installs_90 hw]
set_option maxRecDepth 100000 in
set_option maxHeartbeats 4000000 in
theorem eX10_installs_84 {M : Nat} {h : Hp} (hw : MW M h) (x1 : Int32) (x2 : Int32) (x3 : Int32) (s : MS) : fX10_installs_84 M x1 x2 x3 (pm M h s) = lft M h (gX10_installs_84 x1 x2 x3 s) := by
  unfold fX10_installs_84 gX10_installs_84
  simp only [bd_some, onR_some, bd2_lft, lft_bd, lft_bdm, lft_ite, lft_some, lft_none, pm_kd hw, eX10_installs_85 hw]
set_option maxRecDepth 100000 in
set_option maxHeartbeats 4000000 in
theorem eX10_installs {M : Nat} {h : Hp} (hw : MW M h) (x1 : Int32) (x2 : Int32) (x3 : Int32) (s : MS) : fX10_installs M x1 x2 x3 (pm M h s) = lft M h (gX10_installs x1 x2 x3 s) := by
  unfold fX10_installs gX10_installs
  simp only [bd_some, onR_some, bd2_lft, lft_bd, lft_bdm, lft_ite, lft_some, lft_none, pm_kd hw, qR19 hw, qR20 hw, qR5 hw, qR6 hw, qR8 hw, ql19 hw, ql20 hw, ql5 hw, ql6 hw, ql8 hw, qs19 hw, qs20 hw, qs5 hw, qs6 hw, qs8 hw, qz19 hw, qz20 hw, qz5 hw, qz6 hw, qz8 hw, eX10_answer hw, eX10_record hw, eX10_installs_84 hw, eX10_termAt hw, eX10_installs_85 hw]
set_option maxRecDepth 100000 in
set_option maxHeartbeats 4000000 in
theorem eX10_got_294 {M : Nat} {h : Hp} (hw : MW M h) (x2 : Int32) (x3 : Int32) (s : MS) : fX10_got_294 M x2 x3 (pm M h s) = lft M h (gX10_got_294 x2 x3 s) := by
  unfold fX10_got_294 gX10_got_294
  simp only [bd_some, onR_some, bd2_lft, lft_bd, lft_bdm, lft_ite, lft_some, lft_none, pm_kd hw, eX10_send hw]
set_option maxRecDepth 100000 in
set_option maxHeartbeats 4000000 in
theorem eX10_got_102 {M : Nat} {h : Hp} (hw : MW M h) (x2 : Int32) (x3 : Int32) (s : MS) : fX10_got_102 M x2 x3 (pm M h s) = lft M h (gX10_got_102 x2 x3 s) := by
  unfold fX10_got_102 gX10_got_102
  simp only [bd_some, onR_some, bd2_lft, lft_bd, lft_bdm, lft_ite, lft_some, lft_none, pm_kd hw, qR5 hw, ql5 hw, qs5 hw, qz5 hw, eX10_answer hw]
