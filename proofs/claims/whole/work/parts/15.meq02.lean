set_option maxRecDepth 100000 in
set_option maxHeartbeats 4000000 in
theorem eX10_got_82 {M : Nat} {h : Hp} (hw : MW M h) (x1 : Int32) (x2 : Int32) (x3 : Int32) (s : MS) : fX10_got_82 M x1 x2 x3 (pm M h s) = lft M h (gX10_got_82 x1 x2 x3 s) := by
  unfold fX10_got_82 gX10_got_82
  simp only [bd_some, onR_some, bd2_lft, lft_bd, lft_bdm, lft_ite, lft_some, lft_none, pm_kd hw, qR15 hw, ql15 hw, qs15 hw, qz15 hw, eX10_got_102 hw]
set_option maxRecDepth 100000 in
set_option maxHeartbeats 4000000 in
theorem eX10_got_50 {M : Nat} {h : Hp} (hw : MW M h) (x1 : Int32) (x2 : Int32) (x3 : Int32) (s : MS) : fX10_got_50 M x1 x2 x3 (pm M h s) = lft M h (gX10_got_50 x1 x2 x3 s) := by
  unfold fX10_got_50 gX10_got_50
  simp only [bd_some, onR_some, bd2_lft, lft_bd, lft_bdm, lft_ite, lft_some, lft_none, pm_kd hw, qR11 hw, qR12 hw, qR15 hw, qR18 hw, qR19 hw, qR2 hw, qR8 hw, ql11 hw, ql12 hw, ql15 hw, ql18 hw, ql19 hw, ql2 hw, ql8 hw, qs11 hw, qs12 hw, qs15 hw, qs18 hw, qs19 hw, qs2 hw, qs8 hw, qz11 hw, qz12 hw, qz15 hw, qz18 hw, qz19 hw, qz2 hw, qz8 hw, eX10_got_82 hw, eX10_answer hw, eX10_installs hw, eX10_got_294 hw, eX10_accepted hw, eX10_appends hw, eX10_counts hw, eX10_asked hw]
set_option maxRecDepth 100000 in
set_option maxHeartbeats 4000000 in
theorem eX10_got {M : Nat} {h : Hp} (hw : MW M h) (x1 : Int32) (x2 : Int32) (x3 : Int32) (s : MS) : fX10_got M x1 x2 x3 (pm M h s) = lft M h (gX10_got x1 x2 x3 s) := by
  unfold fX10_got gX10_got
  simp only [bd_some, onR_some, bd2_lft, lft_bd, lft_bdm, lft_ite, lft_some, lft_none, pm_kd hw, qR18 hw, qR2 hw, qR3 hw, qR8 hw, ql18 hw, ql2 hw, ql3 hw, ql8 hw, qs18 hw, qs2 hw, qs3 hw, qs8 hw, qz18 hw, qz2 hw, qz3 hw, qz8 hw, eX10_got_50 hw, eX10_record hw]
set_option maxRecDepth 100000 in
set_option maxHeartbeats 4000000 in
theorem eX10_deliver_18 {M : Nat} {h : Hp} (hw : MW M h) (x1 : Int32) (y0 : Int32) (s : MS) : fX10_deliver_18 M x1 y0 M (pm M h s) = lft M h (gX10_deliver_18 x1 y0 s) := by
  unfold fX10_deliver_18 gX10_deliver_18
  simp only [bd_some, onR_some, bd2_lft, lft_bd, lft_bdm, lft_ite, lft_some, lft_none, pm_kd hw, qR1 hw, qR16 hw, qR17 hw, qg24 hw, ql1 hw, ql16 hw, ql17 hw, qs1 hw, qs16 hw, qs17 hw, qz1 hw, qz16 hw, qz17 hw, eX10_bad hw, eX10_got hw]
set_option maxRecDepth 100000 in
set_option maxHeartbeats 4000000 in
theorem eX10_deliver_13 {M : Nat} {h : Hp} (hw : MW M h) (x1 : Int32) (s : MS) : fX10_deliver_13 M x1 M (pm M h s) = lft M h (gX10_deliver_13 x1 s) := by
  unfold fX10_deliver_13 gX10_deliver_13
  simp only [bd_some, onR_some, bd2_lft, lft_bd, lft_bdm, lft_ite, lft_some, lft_none, pm_kd hw, eX10_deliver_18 hw]
set_option maxRecDepth 100000 in
set_option maxHeartbeats 4000000 in
theorem eX10_deliver {M : Nat} {h : Hp} (hw : MW M h) (x1 : Int32) (s : MS) : fX10_deliver M x1 (pm M h s) = lft M h (gX10_deliver x1 s) := by
  unfold fX10_deliver gX10_deliver
  simp only [bd_some, onR_some, bd2_lft, lft_bd, lft_bdm, lft_ite, lft_some, lft_none, pm_kd hw, qg24 hw, eX10_deliver_13 hw, eX10_deliver_18 hw]
set_option maxRecDepth 100000 in
set_option maxHeartbeats 4000000 in
theorem eX10_event {M : Nat} {h : Hp} (hw : MW M h) (x1 : Int32) (x2 : Int32) (x3 : Int32) (s : MS) : fX10_event M x1 x2 x3 (pm M h s) = lft M h (gX10_event x1 x2 x3 s) := by
  unfold fX10_event gX10_event
  simp only [bd_some, onR_some, bd2_lft, lft_bd, lft_bdm, lft_ite, lft_some, lft_none, pm_kd hw, qR43 hw, qR44 hw, qR45 hw, qR46 hw, qg40 hw, qg47 hw, ql34 hw, ql35 hw, ql36 hw, ql37 hw, qp47 hw, qs34 hw, qs35 hw, qs36 hw, qs37 hw, qz34 hw, qz35 hw, qz36 hw, qz37 hw]
set_option maxRecDepth 100000 in
set_option maxHeartbeats 4000000 in
theorem eX10_put_29 {M : Nat} {h : Hp} (hw : MW M h) (x1 : Int32) (x2 : Int32) (x3 : Int32) (s : MS) : fX10_put_29 M x1 x2 x3 (pm M h s) = lft M h (gX10_put_29 x1 x2 x3 s) := by
  unfold fX10_put_29 gX10_put_29
  simp only [bd_some, onR_some, bd2_lft, lft_bd, lft_bdm, lft_ite, lft_some, lft_none, pm_kd hw, qR33 hw, qR35 hw, qR36 hw, qR37 hw, qg40 hw, ql27 hw, ql29 hw, ql30 hw, ql31 hw, qs27 hw, qs29 hw, qs30 hw, qs31 hw, qz27 hw, qz29 hw, qz30 hw, qz31 hw, eX10_event hw]
set_option maxRecDepth 100000 in
set_option maxHeartbeats 4000000 in
theorem eX10_put {M : Nat} {h : Hp} (hw : MW M h) (x1 : Int32) (x2 : Int32) (x3 : Int32) (s : MS) : fX10_put M x1 x2 x3 (pm M h s) = lft M h (gX10_put x1 x2 x3 s) := by
  unfold fX10_put gX10_put
  simp only [bd_some, onR_some, bd2_lft, lft_bd, lft_bdm, lft_ite, lft_some, lft_none, pm_kd hw, qR33 hw, qR34 hw, qg40 hw, ql27 hw, ql28 hw, qp40 hw, qs27 hw, qs28 hw, qz27 hw, qz28 hw, eX10_put_29 hw]
set_option maxRecDepth 100000 in
set_option maxHeartbeats 4000000 in
theorem eX10_gone {M : Nat} {h : Hp} (hw : MW M h) (x1 : Int32) (s : MS) : fX10_gone M x1 (pm M h s) = lft M h (gX10_gone x1 s) := by
  unfold fX10_gone gX10_gone
  simp only [bd_some, onR_some, bd2_lft, lft_bd, lft_bdm, lft_ite, lft_some, lft_none, pm_kd hw, qR33 hw, qR34 hw, qR35 hw, qR36 hw, qR37 hw, ql27 hw, ql28 hw, ql29 hw, ql30 hw, ql31 hw, qs27 hw, qs28 hw, qs29 hw, qs30 hw, qs31 hw, qz27 hw, qz28 hw, qz29 hw, qz30 hw, qz31 hw, eX10_event hw]
set_option maxRecDepth 100000 in
set_option maxHeartbeats 4000000 in
theorem eX10_removed_64 {M : Nat} {h : Hp} (hw : MW M h) (k6 : Int32 → Int32 → Int32 → Int32 → MS → Option (Int32 × MS)) (c6 : Nat → Int32 → Int32 → Int32 → Int32 → Hp → Option (Int32 × Hp)) (hk6 : ∀ (x2 : Int32) (x3 : Int32) (x4 : Int32) (x5 : Int32) (s : MS), c6 M x2 x3 x4 x5 (pm M h s) = lft M h (k6 x2 x3 x4 x5 s)) (x2 : Int32) (x3 : Int32) (x4 : Int32) (x5 : Int32) (s : MS) : fX10_removed_64 c6 M x2 x3 x4 x5 (pm M h s) = lft M h (gX10_removed_64 k6 x2 x3 x4 x5 s) := by
  unfold fX10_removed_64 gX10_removed_64
  simp only [bd_some, onR_some, bd2_lft, lft_bd, lft_bdm, lft_ite, lft_some, lft_none, pm_kd hw, hk6]
set_option maxRecDepth 100000 in
set_option maxHeartbeats 4000000 in
theorem eX10_removed_55 {M : Nat} {h : Hp} (hw : MW M h) (k6 : Int32 → Int32 → Int32 → Int32 → MS → Option (Int32 × MS)) (c6 : Nat → Int32 → Int32 → Int32 → Int32 → Hp → Option (Int32 × Hp)) (hk6 : ∀ (x2 : Int32) (x3 : Int32) (x4 : Int32) (x5 : Int32) (s : MS), c6 M x2 x3 x4 x5 (pm M h s) = lft M h (k6 x2 x3 x4 x5 s)) (x2 : Int32) (x3 : Int32) (x4 : Int32) (x5 : Int32) (s : MS) : fX10_removed_55 c6 M x2 x3 x4 x5 (pm M h s) = lft M h (gX10_removed_55 k6 x2 x3 x4 x5 s) := by
  unfold fX10_removed_55 gX10_removed_55
  simp only [bd_some, onR_some, bd2_lft, lft_bd, lft_bdm, lft_ite, lft_some, lft_none, pm_kd hw, eX10_gone hw, eX10_removed_64 hw k6 c6 hk6, hk6]
set_option maxRecDepth 100000 in
set_option maxHeartbeats 4000000 in
theorem eX10_removed_40 {M : Nat} {h : Hp} (hw : MW M h) (k6 : Int32 → Int32 → Int32 → Int32 → MS → Option (Int32 × MS)) (c6 : Nat → Int32 → Int32 → Int32 → Int32 → Hp → Option (Int32 × Hp)) (hk6 : ∀ (x2 : Int32) (x3 : Int32) (x4 : Int32) (x5 : Int32) (s : MS), c6 M x2 x3 x4 x5 (pm M h s) = lft M h (k6 x2 x3 x4 x5 s)) (x2 : Int32) (x3 : Int32) (x4 : Int32) (x5 : Int32) (s : MS) : fX10_removed_40 c6 M x2 x3 x4 x5 (pm M h s) = lft M h (gX10_removed_40 k6 x2 x3 x4 x5 s) := by
  unfold fX10_removed_40 gX10_removed_40
  simp only [bd_some, onR_some, bd2_lft, lft_bd, lft_bdm, lft_ite, lft_some, lft_none, pm_kd hw, qg40 hw, qp40 hw, eX10_removed_55 hw k6 c6 hk6, hk6]
set_option maxRecDepth 100000 in
set_option maxHeartbeats 4000000 in
theorem eX10_removed_6_body {M : Nat} {h : Hp} (hw : MW M h) (c6 : Nat → Int32 → Int32 → Int32 → Int32 → Hp → Option (Int32 × Hp)) (k6 : Int32 → Int32 → Int32 → Int32 → MS → Option (Int32 × MS)) (hk6 : ∀ (x2 : Int32) (x3 : Int32) (x4 : Int32) (x5 : Int32) (s : MS), c6 M x2 x3 x4 x5 (pm M h s) = lft M h (k6 x2 x3 x4 x5 s)) (x2 : Int32) (x3 : Int32) (x4 : Int32) (x5 : Int32) (s : MS) : fX10_removed_6_body c6 M x2 x3 x4 x5 (pm M h s) = lft M h (gX10_removed_6_body k6 x2 x3 x4 x5 s) := by
  unfold fX10_removed_6_body gX10_removed_6_body
  simp only [bd_some, onR_some, bd2_lft, lft_bd, lft_bdm, lft_ite, lft_some, lft_none, pm_kd hw, qR33 hw, qR37 hw, ql27 hw, ql31 hw, qs27 hw, qs31 hw, qz27 hw, qz31 hw, eX10_removed_64 hw k6 c6 hk6, eX10_removed_40 hw k6 c6 hk6, hk6]
set_option maxRecDepth 100000 in
set_option maxHeartbeats 4000000 in
theorem eX10_removed_6 {M : Nat} {h : Hp} (hw : MW M h) : ∀ (n : Nat) (x2 : Int32) (x3 : Int32) (x4 : Int32) (x5 : Int32)  (s : MS), fX10_removed_6 n M x2 x3 x4 x5 (pm M h s) = lft M h (gX10_removed_6 n x2 x3 x4 x5 s) := by
  intro n
  induction n with
  | zero => intros; rfl
  | succ n ih => exact eX10_removed_6_body hw _ _ ih
set_option maxRecDepth 100000 in
set_option maxHeartbeats 4000000 in
theorem eX10_removed {M : Nat} {h : Hp} (hw : MW M h) (x1 : Int32) (x2 : Int32) (x3 : Int32) (s : MS) : fX10_removed M x1 x2 x3 (pm M h s) = lft M h (gX10_removed x1 x2 x3 s) := by
  unfold fX10_removed gX10_removed
  simp only [bd_some, onR_some, bd2_lft, lft_bd, lft_bdm, lft_ite, lft_some, lft_none, pm_kd hw, eX10_removed_6 hw]
set_option maxRecDepth 100000 in
set_option maxHeartbeats 4000000 in
theorem eX10_says {M : Nat} {h : Hp} (hw : MW M h) (x1 : Int32) (x2 : Int32) (s : MS) : fX10_says M x1 x2 (pm M h s) = lft M h (gX10_says x1 x2 s) := by
  unfold fX10_says gX10_says
  simp only [bd_some, onR_some, bd2_lft, lft_bd, lft_bdm, lft_ite, lft_some, lft_none, pm_kd hw, qR33 hw, qR34 hw, qR35 hw, qR36 hw, ql27 hw, ql28 hw, ql29 hw, ql30 hw, qs27 hw, qs28 hw, qs29 hw, qs30 hw, qz27 hw, qz28 hw, qz29 hw, qz30 hw]
set_option maxRecDepth 100000 in
set_option maxHeartbeats 4000000 in
theorem eX10_done_349 {M : Nat} {h : Hp} (hw : MW M h) (k297 : Int32 → MS → Option (Int32 × MS)) (c297 : Nat → Int32 → Hp → Option (Int32 × Hp)) (hk297 : ∀ (x8 : Int32) (s : MS), c297 M x8 (pm M h s) = lft M h (k297 x8 s)) (x8 : Int32) (s : MS) : fX10_done_349 c297 M x8 (pm M h s) = lft M h (gX10_done_349 k297 x8 s) := by
  unfold fX10_done_349 gX10_done_349
  simp only [bd_some, onR_some, bd2_lft, lft_bd, lft_bdm, lft_ite, lft_some, lft_none, pm_kd hw, hk297]
set_option maxRecDepth 100000 in
set_option maxHeartbeats 4000000 in
theorem eX10_done_297_body {M : Nat} {h : Hp} (hw : MW M h) (c297 : Nat → Int32 → Hp → Option (Int32 × Hp)) (k297 : Int32 → MS → Option (Int32 × MS)) (hk297 : ∀ (x8 : Int32) (s : MS), c297 M x8 (pm M h s) = lft M h (k297 x8 s)) (x8 : Int32) (s : MS) : fX10_done_297_body c297 M x8 (pm M h s) = lft M h (gX10_done_297_body k297 x8 s) := by
  unfold fX10_done_297_body gX10_done_297_body
  simp only [bd_some, onR_some, bd2_lft, lft_bd, lft_bdm, lft_ite, lft_some, lft_none, pm_kd hw, qR38 hw, qR39 hw, qg41 hw, ql32 hw, ql33 hw, qs32 hw, qs33 hw, qz32 hw, qz33 hw, eX10_done_349 hw k297 c297 hk297, eX10_removed hw, hk297]
set_option maxRecDepth 100000 in
set_option maxHeartbeats 4000000 in
theorem eX10_done_297 {M : Nat} {h : Hp} (hw : MW M h) : ∀ (n : Nat) (x8 : Int32)  (s : MS), fX10_done_297 n M x8 (pm M h s) = lft M h (gX10_done_297 n x8 s) := by
  intro n
  induction n with
  | zero => intros; rfl
  | succ n ih => exact eX10_done_297_body hw _ _ ih
set_option maxRecDepth 100000 in
set_option maxHeartbeats 4000000 in
theorem eX10_done_269 {M : Nat} {h : Hp} (hw : MW M h) (x2 : Int32) (s : MS) : fX10_done_269 M x2 (pm M h s) = lft M h (gX10_done_269 x2 s) := by
  unfold fX10_done_269 gX10_done_269
  simp only [bd_some, onR_some, bd2_lft, lft_bd, lft_bdm, lft_ite, lft_some, lft_none, pm_kd hw, qR38 hw, ql32 hw, qs32 hw, qz32 hw]
set_option maxRecDepth 100000 in
set_option maxHeartbeats 4000000 in
theorem eX10_done_178 {M : Nat} {h : Hp} (hw : MW M h) (x9 : Int32) (s : MS) : fX10_done_178 x9 (pm M h s) = lft M h (gX10_done_178 x9 s) := by
  unfold fX10_done_178 gX10_done_178
  simp only [bd_some, onR_some, bd2_lft, lft_bd, lft_bdm, lft_ite, lft_some, lft_none, pm_kd hw]
set_option maxRecDepth 100000 in
set_option maxHeartbeats 4000000 in
theorem eX10_done_149 {M : Nat} {h : Hp} (hw : MW M h) (x6 : Int32) (x7 : Int32) (y0 : Int32) (s : MS) : fX10_done_149 M x6 x7 y0 (pm M h s) = lft M h (gX10_done_149 x6 x7 y0 s) := by
  unfold fX10_done_149 gX10_done_149
  simp only [bd_some, onR_some, bd2_lft, lft_bd, lft_bdm, lft_ite, lft_some, lft_none, pm_kd hw, eX10_put hw, eX10_done_178 hw, eX10_removed hw]
set_option maxRecDepth 100000 in
set_option maxHeartbeats 4000000 in
theorem eX10_done_67 {M : Nat} {h : Hp} (hw : MW M h) (x2 : Int32) (x3 : Int32) (x4 : Int32) (s : MS) : fX10_done_67 M x2 x3 x4 (pm M h s) = lft M h (gX10_done_67 x2 x3 x4 s) := by
  unfold fX10_done_67 gX10_done_67
  simp only [bd_some, onR_some, bd2_lft, lft_bd, lft_bdm, lft_ite, lft_some, lft_none, pm_kd hw, qg40 hw, eX10_put hw]
set_option maxRecDepth 100000 in
set_option maxHeartbeats 4000000 in
theorem eX10_done {M : Nat} {h : Hp} (hw : MW M h) (x1 : Int32) (x2 : Int32) (x3 : Int32) (x4 : Int32) (x5 : Int32) (x6 : Int32) (x7 : Int32) (s : MS) : fX10_done M x1 x2 x3 x4 x5 x6 x7 (pm M h s) = lft M h (gX10_done x1 x2 x3 x4 x5 x6 x7 s) := by
  unfold fX10_done gX10_done
  simp only [bd_some, onR_some, bd2_lft, lft_bd, lft_bdm, lft_ite, lft_some, lft_none, pm_kd hw, qR38 hw, qR39 hw, qg40 hw, qg41 hw, qg42 hw, ql32 hw, ql33 hw, qp41 hw, qp42 hw, qs32 hw, qs33 hw, qz32 hw, qz33 hw, eX10_done_297 hw, eX10_done_269 hw, eX10_removed hw, eX10_says hw, eX10_done_149 hw, eX10_done_67 hw]
set_option maxRecDepth 100000 in
set_option maxHeartbeats 4000000 in
theorem eX10_firstEvent_2_body {M : Nat} {h : Hp} (hw : MW M h) (c2 : Nat → Int32 → Hp → Option (Int32 × Hp)) (k2 : Int32 → MS → Option (Int32 × MS)) (hk2 : ∀ (x1 : Int32) (s : MS), c2 M x1 (pm M h s) = lft M h (k2 x1 s)) (x1 : Int32) (s : MS) : fX10_firstEvent_2_body c2 M x1 (pm M h s) = lft M h (gX10_firstEvent_2_body k2 x1 s) := by
  unfold fX10_firstEvent_2_body gX10_firstEvent_2_body
  simp only [bd_some, onR_some, bd2_lft, lft_bd, lft_bdm, lft_ite, lft_some, lft_none, pm_kd hw, qR43 hw, qg42 hw, qg47 hw, ql34 hw, qs34 hw, qz34 hw, hk2]
set_option maxRecDepth 100000 in
set_option maxHeartbeats 4000000 in
theorem eX10_firstEvent_2 {M : Nat} {h : Hp} (hw : MW M h) : ∀ (n : Nat) (x1 : Int32)  (s : MS), fX10_firstEvent_2 n M x1 (pm M h s) = lft M h (gX10_firstEvent_2 n x1 s) := by
  intro n
  induction n with
  | zero => intros; rfl
  | succ n ih => exact eX10_firstEvent_2_body hw _ _ ih
set_option maxRecDepth 100000 in
set_option maxHeartbeats 4000000 in
theorem eX10_firstEvent {M : Nat} {h : Hp} (hw : MW M h) (s : MS) : fX10_firstEvent M (pm M h s) = lft M h (gX10_firstEvent  s) := by
  unfold fX10_firstEvent gX10_firstEvent
  simp only [bd_some, onR_some, bd2_lft, lft_bd, lft_bdm, lft_ite, lft_some, lft_none, pm_kd hw, eX10_firstEvent_2 hw]
set_option maxRecDepth 100000 in
set_option maxHeartbeats 4000000 in
theorem eX10_work_291_body {M : Nat} {h : Hp} (hw : MW M h) (k184 : Int32 → Int32 → MS → Option (Unit × MS)) (c184 : Nat → Int32 → Int32 → Hp → Option (Unit × Hp)) (hk184 : ∀ (x1 : Int32) (x2 : Int32) (s : MS), c184 M x1 x2 (pm M h s) = lft M h (k184 x1 x2 s)) (c291 : Nat → Int32 → Int32 → Hp → Option (Unit × Hp)) (k291 : Int32 → Int32 → MS → Option (Unit × MS)) (hk291 : ∀ (x1 : Int32) (x2 : Int32) (s : MS), c291 M x1 x2 (pm M h s) = lft M h (k291 x1 x2 s)) (x1 : Int32) (x2 : Int32) (s : MS) : fX10_work_291_body c184 c291 M x1 x2 (pm M h s) = lft M h (gX10_work_291_body k184 k291 x1 x2 s) := by
  unfold fX10_work_291_body gX10_work_291_body
  simp only [bd_some, onR_some, bd2_lft, lft_bd, lft_bdm, lft_ite, lft_some, lft_none, pm_kd hw, qR43 hw, qg47 hw, ql34 hw, qp42 hw, qs34 hw, qz34 hw, eX10_firstEvent hw, hk184, hk291]
set_option maxRecDepth 100000 in
set_option maxHeartbeats 4000000 in
theorem eX10_work_291 {M : Nat} {h : Hp} (hw : MW M h) (k184 : Int32 → Int32 → MS → Option (Unit × MS)) (c184 : Nat → Int32 → Int32 → Hp → Option (Unit × Hp)) (hk184 : ∀ (x1 : Int32) (x2 : Int32) (s : MS), c184 M x1 x2 (pm M h s) = lft M h (k184 x1 x2 s)) : ∀ (n : Nat) (x1 : Int32) (x2 : Int32)  (s : MS), fX10_work_291 c184 n M x1 x2 (pm M h s) = lft M h (gX10_work_291 k184 n x1 x2 s) := by
  intro n
  induction n with
  | zero => intros; rfl
  | succ n ih => exact eX10_work_291_body hw k184 c184 hk184 _ _ ih
set_option maxRecDepth 100000 in
set_option maxHeartbeats 4000000 in
theorem eX10_work_184_body {M : Nat} {h : Hp} (hw : MW M h) (c184 : Nat → Int32 → Int32 → Hp → Option (Unit × Hp)) (k184 : Int32 → Int32 → MS → Option (Unit × MS)) (hk184 : ∀ (x1 : Int32) (x2 : Int32) (s : MS), c184 M x1 x2 (pm M h s) = lft M h (k184 x1 x2 s)) (x1 : Int32) (x2 : Int32) (s : MS) : fX10_work_184_body c184 M x1 x2 (pm M h s) = lft M h (gX10_work_184_body k184 x1 x2 s) := by
  unfold fX10_work_184_body gX10_work_184_body
  simp only [bd_some, onR_some, bd2_lft, lft_bd, lft_bdm, lft_ite, lft_some, lft_none, pm_kd hw, qR13 hw, qR48 hw, qg50 hw, ql13 hw, ql38 hw, qp50 hw, qs13 hw, qs38 hw, qz13 hw, qz38 hw, eX10_at hw, eX10_done hw, eX10_work_291 hw k184 c184 hk184, hk184]
set_option maxRecDepth 100000 in
set_option maxHeartbeats 4000000 in
theorem eX10_work_184 {M : Nat} {h : Hp} (hw : MW M h) : ∀ (n : Nat) (x1 : Int32) (x2 : Int32)  (s : MS), fX10_work_184 n M x1 x2 (pm M h s) = lft M h (gX10_work_184 n x1 x2 s) := by
  intro n
  induction n with
  | zero => intros; rfl
  | succ n ih => exact eX10_work_184_body hw _ _ ih
set_option maxRecDepth 100000 in
set_option maxHeartbeats 4000000 in
theorem eX10_work_169 {M : Nat} {h : Hp} (hw : MW M h) (x1 : Int32) (x2 : Int32) (s : MS) : fX10_work_169 M x1 x2 (pm M h s) = lft M h (gX10_work_169 x1 x2 s) := by
  unfold fX10_work_169 gX10_work_169
  simp only [bd_some, onR_some, bd2_lft, lft_bd, lft_bdm, lft_ite, lft_some, lft_none, pm_kd hw, qR14 hw, ql14 hw, qp49 hw, qp51 hw, qs14 hw, qz14 hw, eX10_work_184 hw]
set_option maxRecDepth 100000 in
set_option maxHeartbeats 4000000 in
theorem eX10_work_123_body {M : Nat} {h : Hp} (hw : MW M h) (c123 : Nat → Int32 → Int32 → Int32 → Hp → Option (Unit × Hp)) (k123 : Int32 → Int32 → Int32 → MS → Option (Unit × MS)) (hk123 : ∀ (x1 : Int32) (x2 : Int32) (x4 : Int32) (s : MS), c123 M x1 x2 x4 (pm M h s) = lft M h (k123 x1 x2 x4 s)) (x1 : Int32) (x2 : Int32) (x4 : Int32) (s : MS) : fX10_work_123_body c123 M x1 x2 x4 (pm M h s) = lft M h (gX10_work_123_body k123 x1 x2 x4 s) := by
  unfold fX10_work_123_body gX10_work_123_body
  simp only [bd_some, onR_some, bd2_lft, lft_bd, lft_bdm, lft_ite, lft_some, lft_none, pm_kd hw, qR38 hw, ql32 hw, qp40 hw, qp41 hw, qp42 hw, qp47 hw, qp50 hw, qs32 hw, qz32 hw, eX10_work_169 hw, hk123]
set_option maxRecDepth 100000 in
set_option maxHeartbeats 4000000 in
theorem eX10_work_123 {M : Nat} {h : Hp} (hw : MW M h) : ∀ (n : Nat) (x1 : Int32) (x2 : Int32) (x4 : Int32)  (s : MS), fX10_work_123 n M x1 x2 x4 (pm M h s) = lft M h (gX10_work_123 n x1 x2 x4 s) := by
  intro n
  induction n with
  | zero => intros; rfl
  | succ n ih => exact eX10_work_123_body hw _ _ ih
set_option maxRecDepth 100000 in
set_option maxHeartbeats 4000000 in
theorem eX10_work_67_body {M : Nat} {h : Hp} (hw : MW M h) (c67 : Nat → Int32 → Int32 → Int32 → Hp → Option (Unit × Hp)) (k67 : Int32 → Int32 → Int32 → MS → Option (Unit × MS)) (hk67 : ∀ (x1 : Int32) (x2 : Int32) (x4 : Int32) (s : MS), c67 M x1 x2 x4 (pm M h s) = lft M h (k67 x1 x2 x4 s)) (x1 : Int32) (x2 : Int32) (x4 : Int32) (s : MS) : fX10_work_67_body c67 M x1 x2 x4 (pm M h s) = lft M h (gX10_work_67_body k67 x1 x2 x4 s) := by
  unfold fX10_work_67_body gX10_work_67_body
  simp only [bd_some, onR_some, bd2_lft, lft_bd, lft_bdm, lft_ite, lft_some, lft_none, pm_kd hw, qR33 hw, qR34 hw, qR35 hw, qR36 hw, qR37 hw, ql27 hw, ql28 hw, ql29 hw, ql30 hw, ql31 hw, qs27 hw, qs28 hw, qs29 hw, qs30 hw, qs31 hw, qz27 hw, qz28 hw, qz29 hw, qz30 hw, qz31 hw, eX10_work_123 hw, hk67]
set_option maxRecDepth 100000 in
set_option maxHeartbeats 4000000 in
theorem eX10_work_67 {M : Nat} {h : Hp} (hw : MW M h) : ∀ (n : Nat) (x1 : Int32) (x2 : Int32) (x4 : Int32)  (s : MS), fX10_work_67 n M x1 x2 x4 (pm M h s) = lft M h (gX10_work_67 n x1 x2 x4 s) := by
  intro n
  induction n with
  | zero => intros; rfl
  | succ n ih => exact eX10_work_67_body hw _ _ ih
set_option maxRecDepth 100000 in
set_option maxHeartbeats 4000000 in
theorem eX10_work_59 {M : Nat} {h : Hp} (hw : MW M h) (x1 : Int32) (x2 : Int32) (y0 : Int32) (s : MS) : fX10_work_59 M x1 x2 y0 (pm M h s) = lft M h (gX10_work_59 x1 x2 y0 s) := by
  unfold fX10_work_59 gX10_work_59
  simp only [bd_some, onR_some, bd2_lft, lft_bd, lft_bdm, lft_ite, lft_some, lft_none, pm_kd hw, eX10_work_169 hw, eX10_work_67 hw]
set_option maxRecDepth 100000 in
set_option maxHeartbeats 4000000 in
theorem eX10_work_58 {M : Nat} {h : Hp} (hw : MW M h) (x1 : Int32) (x2 : Int32) (s : MS) : fX10_work_58 M x1 x2 (pm M h s) = lft M h (gX10_work_58 x1 x2 s) := by
  unfold fX10_work_58 gX10_work_58
  simp only [bd_some, onR_some, bd2_lft, lft_bd, lft_bdm, lft_ite, lft_some, lft_none, pm_kd hw, eX10_work_59 hw]
set_option maxRecDepth 100000 in
set_option maxHeartbeats 4000000 in
theorem eX10_work_24 {M : Nat} {h : Hp} (hw : MW M h) (x1 : Int32) (y0 : Int32) (s : MS) : fX10_work_24 M x1 y0 (pm M h s) = lft M h (gX10_work_24 x1 y0 s) := by
  unfold fX10_work_24 gX10_work_24
  simp only [bd_some, onR_some, bd2_lft, lft_bd, lft_bdm, lft_ite, lft_some, lft_none, pm_kd hw, qR14 hw, qg49 hw, qg50 hw, qg51 hw, ql14 hw, qs14 hw, qz14 hw, eX10_work_58 hw, eX10_work_59 hw]
set_option maxRecDepth 100000 in
set_option maxHeartbeats 4000000 in
theorem eX10_work {M : Nat} {h : Hp} (hw : MW M h) (x1 : Int32) (s : MS) : fX10_work M x1 (pm M h s) = lft M h (gX10_work x1 s) := by
  unfold fX10_work gX10_work
  simp only [bd_some, onR_some, bd2_lft, lft_bd, lft_bdm, lft_ite, lft_some, lft_none, pm_kd hw, qR1 hw, qR4 hw, qR6 hw, ql1 hw, ql4 hw, ql6 hw, qs1 hw, qs4 hw, qs6 hw, qz1 hw, qz4 hw, qz6 hw, eX10_work_24 hw]
set_option maxRecDepth 100000 in
set_option maxHeartbeats 4000000 in
theorem eX10_digest_165_body {M : Nat} {h : Hp} (hw : MW M h) (c165 : Nat → Int64 → Int32 → Hp → Option (Int64 × Hp)) (k165 : Int64 → Int32 → MS → Option (Int64 × MS)) (hk165 : ∀ (x2 : Int64) (x4 : Int32) (s : MS), c165 M x2 x4 (pm M h s) = lft M h (k165 x2 x4 s)) (x2 : Int64) (x4 : Int32) (s : MS) : fX10_digest_165_body c165 M x2 x4 (pm M h s) = lft M h (gX10_digest_165_body k165 x2 x4 s) := by
  unfold fX10_digest_165_body gX10_digest_165_body
  simp only [bd_some, onR_some, bd2_lft, lft_bd, lft_bdm, lft_ite, lft_some, lft_none, pm_kd hw, qg40 hw, qg47 hw, eX10_coded hw, hk165]
set_option maxRecDepth 100000 in
set_option maxHeartbeats 4000000 in
theorem eX10_digest_165 {M : Nat} {h : Hp} (hw : MW M h) : ∀ (n : Nat) (x2 : Int64) (x4 : Int32)  (s : MS), fX10_digest_165 n M x2 x4 (pm M h s) = lft M h (gX10_digest_165 n x2 x4 s) := by
  intro n
  induction n with
  | zero => intros; rfl
  | succ n ih => exact eX10_digest_165_body hw _ _ ih
set_option maxRecDepth 100000 in
set_option maxHeartbeats 4000000 in
theorem eX10_digest_153 {M : Nat} {h : Hp} (hw : MW M h) (k56 : Int64 → Int32 → MS → Option (Int64 × MS)) (c56 : Nat → Int64 → Int32 → Hp → Option (Int64 × Hp)) (hk56 : ∀ (x2 : Int64) (x4 : Int32) (s : MS), c56 M x2 x4 (pm M h s) = lft M h (k56 x2 x4 s)) (x2 : Int64) (x4 : Int32) (s : MS) : fX10_digest_153 c56 M x2 x4 (pm M h s) = lft M h (gX10_digest_153 k56 x2 x4 s) := by
  unfold fX10_digest_153 gX10_digest_153
  simp only [bd_some, onR_some, bd2_lft, lft_bd, lft_bdm, lft_ite, lft_some, lft_none, pm_kd hw, hk56]
set_option maxRecDepth 100000 in
set_option maxHeartbeats 4000000 in
theorem eX10_digest_56_body {M : Nat} {h : Hp} (hw : MW M h) (c56 : Nat → Int64 → Int32 → Hp → Option (Int64 × Hp)) (k56 : Int64 → Int32 → MS → Option (Int64 × MS)) (hk56 : ∀ (x2 : Int64) (x4 : Int32) (s : MS), c56 M x2 x4 (pm M h s) = lft M h (k56 x2 x4 s)) (x2 : Int64) (x4 : Int32) (s : MS) : fX10_digest_56_body c56 M x2 x4 (pm M h s) = lft M h (gX10_digest_56_body k56 x2 x4 s) := by
  unfold fX10_digest_56_body gX10_digest_56_body
  simp only [bd_some, onR_some, bd2_lft, lft_bd, lft_bdm, lft_ite, lft_some, lft_none, pm_kd hw, qR33 hw, qR34 hw, qR35 hw, qR36 hw, qR37 hw, ql27 hw, ql28 hw, ql29 hw, ql30 hw, ql31 hw, qs27 hw, qs28 hw, qs29 hw, qs30 hw, qs31 hw, qz27 hw, qz28 hw, qz29 hw, qz30 hw, qz31 hw, eX10_digest_153 hw k56 c56 hk56, eX10_firstEvent hw, eX10_digest_165 hw, hk56]
set_option maxRecDepth 100000 in
set_option maxHeartbeats 4000000 in
theorem eX10_digest_56 {M : Nat} {h : Hp} (hw : MW M h) : ∀ (n : Nat) (x2 : Int64) (x4 : Int32)  (s : MS), fX10_digest_56 n M x2 x4 (pm M h s) = lft M h (gX10_digest_56 n x2 x4 s) := by
  intro n
  induction n with
  | zero => intros; rfl
  | succ n ih => exact eX10_digest_56_body hw _ _ ih
set_option maxRecDepth 100000 in
set_option maxHeartbeats 4000000 in
theorem eX10_digest_35 {M : Nat} {h : Hp} (hw : MW M h) (x1 : Int32) (y0 : Int32) (s : MS) : fX10_digest_35 M x1 y0 M (pm M h s) = lft M h (gX10_digest_35 x1 y0 s) := by
  unfold fX10_digest_35 gX10_digest_35
  simp only [bd_some, onR_some, bd2_lft, lft_bd, lft_bdm, lft_ite, lft_some, lft_none, pm_kd hw, eX10_bad hw, eX10_work hw, eX10_digest_56 hw]
set_option maxRecDepth 100000 in
set_option maxHeartbeats 4000000 in
theorem eX10_digest_13 {M : Nat} {h : Hp} (hw : MW M h) (x1 : Int32) (y0 : Int32) (s : MS) : fX10_digest_13 M x1 y0 M (pm M h s) = lft M h (gX10_digest_13 x1 y0 s) := by
  unfold fX10_digest_13 gX10_digest_13
  simp only [bd_some, onR_some, bd2_lft, lft_bd, lft_bdm, lft_ite, lft_some, lft_none, pm_kd hw, qR1 hw, ql1 hw, qs1 hw, qz1 hw, eX10_bad hw, eX10_digest_35 hw]
set_option maxRecDepth 100000 in
set_option maxHeartbeats 4000000 in
theorem eX10_digest {M : Nat} {h : Hp} (hw : MW M h) (x1 : Int32) (s : MS) : fX10_digest M x1 (pm M h s) = lft M h (gX10_digest x1 s) := by
  unfold fX10_digest gX10_digest
  simp only [bd_some, onR_some, bd2_lft, lft_bd, lft_bdm, lft_ite, lft_some, lft_none, pm_kd hw, eX10_isNode hw, eX10_digest_13 hw]
set_option maxRecDepth 100000 in
set_option maxHeartbeats 4000000 in
theorem eX10_entry_42 {M : Nat} {h : Hp} (hw : MW M h) (s : MS) : fX10_entry_42  (pm M h s) = lft M h (gX10_entry_42  s) := by
  unfold fX10_entry_42 gX10_entry_42
  simp only [bd_some, onR_some, bd2_lft, lft_bd, lft_bdm, lft_ite, lft_some, lft_none, pm_kd hw]
set_option maxRecDepth 100000 in
set_option maxHeartbeats 4000000 in
theorem eX10_entry_13 {M : Nat} {h : Hp} (hw : MW M h) (x1 : Int32) (x2 : Int32) (y0 : Int32) (s : MS) : fX10_entry_13 M x1 x2 y0 M (pm M h s) = lft M h (gX10_entry_13 x1 x2 y0 s) := by
  unfold fX10_entry_13 gX10_entry_13
  simp only [bd_some, onR_some, bd2_lft, lft_bd, lft_bdm, lft_ite, lft_some, lft_none, pm_kd hw, qR4 hw, qR5 hw, ql4 hw, ql5 hw, qs4 hw, qs5 hw, qz4 hw, qz5 hw, eX10_bad hw, eX10_entry_42 hw, eX10_termAt hw]
set_option maxRecDepth 100000 in
set_option maxHeartbeats 4000000 in
theorem eX10_entry {M : Nat} {h : Hp} (hw : MW M h) (x1 : Int32) (x2 : Int32) (s : MS) : fX10_entry M x1 x2 (pm M h s) = lft M h (gX10_entry x1 x2 s) := by
  unfold fX10_entry gX10_entry
  simp only [bd_some, onR_some, bd2_lft, lft_bd, lft_bdm, lft_ite, lft_some, lft_none, pm_kd hw, eX10_isNode hw, eX10_entry_13 hw]
set_option maxRecDepth 100000 in
set_option maxHeartbeats 4000000 in
theorem eX10_event__122 {M : Nat} {h : Hp} (hw : MW M h) (x3 : Int32) (x4 : Int32) (y0 : Int32) (s : MS) : fX10_event__122 M x3 x4 y0 M (pm M h s) = lft M h (gX10_event__122 x3 x4 y0 s) := by
  unfold fX10_event__122 gX10_event__122
  simp only [bd_some, onR_some, bd2_lft, lft_bd, lft_bdm, lft_ite, lft_some, lft_none, pm_kd hw, eX10_bad hw, eX10_coded hw]
set_option maxRecDepth 100000 in
set_option maxHeartbeats 4000000 in
theorem eX10_event__117 {M : Nat} {h : Hp} (hw : MW M h) (x3 : Int32) (x4 : Int32) (s : MS) : fX10_event__117 M x3 x4 M (pm M h s) = lft M h (gX10_event__117 x3 x4 s) := by
  unfold fX10_event__117 gX10_event__117
  simp only [bd_some, onR_some, bd2_lft, lft_bd, lft_bdm, lft_ite, lft_some, lft_none, pm_kd hw, eX10_event__122 hw]
set_option maxRecDepth 100000 in
set_option maxHeartbeats 4000000 in
theorem eX10_event__101 {M : Nat} {h : Hp} (hw : MW M h) (x3 : Int32) (x4 : Int32) (s : MS) : fX10_event__101 M x3 x4 (pm M h s) = lft M h (gX10_event__101 x3 x4 s) := by
  unfold fX10_event__101 gX10_event__101
  simp only [bd_some, onR_some, bd2_lft, lft_bd, lft_bdm, lft_ite, lft_some, lft_none, pm_kd hw, qg47 hw, eX10_event__117 hw, eX10_event__122 hw]
set_option maxRecDepth 100000 in
set_option maxHeartbeats 4000000 in
theorem eX10_event__75_body {M : Nat} {h : Hp} (hw : MW M h) (c75 : Nat → Int32 → Int32 → Int32 → Hp → Option (Int64 × Hp)) (k75 : Int32 → Int32 → Int32 → MS → Option (Int64 × MS)) (hk75 : ∀ (x2 : Int32) (x3 : Int32) (x4 : Int32) (s : MS), c75 M x2 x3 x4 (pm M h s) = lft M h (k75 x2 x3 x4 s)) (x2 : Int32) (x3 : Int32) (x4 : Int32) (s : MS) : fX10_event__75_body c75 M x2 x3 x4 (pm M h s) = lft M h (gX10_event__75_body k75 x2 x3 x4 s) := by
  unfold fX10_event__75_body gX10_event__75_body
  simp only [bd_some, onR_some, bd2_lft, lft_bd, lft_bdm, lft_ite, lft_some, lft_none, pm_kd hw, qR43 hw, qg47 hw, ql34 hw, qs34 hw, qz34 hw, eX10_event__101 hw, hk75]
set_option maxRecDepth 100000 in
set_option maxHeartbeats 4000000 in
theorem eX10_event__75 {M : Nat} {h : Hp} (hw : MW M h) : ∀ (n : Nat) (x2 : Int32) (x3 : Int32) (x4 : Int32)  (s : MS), fX10_event__75 n M x2 x3 x4 (pm M h s) = lft M h (gX10_event__75 n x2 x3 x4 s) := by
  intro n
  induction n with
  | zero => intros; rfl
  | succ n ih => exact eX10_event__75_body hw _ _ ih
set_option maxRecDepth 100000 in
set_option maxHeartbeats 4000000 in
theorem eX10_event__63 {M : Nat} {h : Hp} (hw : MW M h) (x2 : Int32) (x3 : Int32) (y0 : Int32) (s : MS) : fX10_event__63 M x2 x3 y0 M (pm M h s) = lft M h (gX10_event__63 x2 x3 y0 s) := by
  unfold fX10_event__63 gX10_event__63
  simp only [bd_some, onR_some, bd2_lft, lft_bd, lft_bdm, lft_ite, lft_some, lft_none, pm_kd hw, eX10_bad hw, eX10_event__75 hw]
set_option maxRecDepth 100000 in
set_option maxHeartbeats 4000000 in
theorem eX10_event__35 {M : Nat} {h : Hp} (hw : MW M h) (x1 : Int32) (x2 : Int32) (x3 : Int32) (y0 : Int32) (s : MS) : fX10_event__35 M x1 x2 x3 y0 M (pm M h s) = lft M h (gX10_event__35 x1 x2 x3 y0 s) := by
  unfold fX10_event__35 gX10_event__35
  simp only [bd_some, onR_some, bd2_lft, lft_bd, lft_bdm, lft_ite, lft_some, lft_none, pm_kd hw, qg42 hw, eX10_bad hw, eX10_work hw, eX10_event__63 hw]
set_option maxRecDepth 100000 in
set_option maxHeartbeats 4000000 in
theorem eX10_event__13 {M : Nat} {h : Hp} (hw : MW M h) (x1 : Int32) (x2 : Int32) (x3 : Int32) (y0 : Int32) (s : MS) : fX10_event__13 M x1 x2 x3 y0 M (pm M h s) = lft M h (gX10_event__13 x1 x2 x3 y0 s) := by
  unfold fX10_event__13 gX10_event__13
  simp only [bd_some, onR_some, bd2_lft, lft_bd, lft_bdm, lft_ite, lft_some, lft_none, pm_kd hw, qR1 hw, ql1 hw, qs1 hw, qz1 hw, eX10_bad hw, eX10_event__35 hw]
set_option maxRecDepth 100000 in
set_option maxHeartbeats 4000000 in
theorem eX10_event_ {M : Nat} {h : Hp} (hw : MW M h) (x1 : Int32) (x2 : Int32) (x3 : Int32) (s : MS) : fX10_event_ M x1 x2 x3 (pm M h s) = lft M h (gX10_event_ x1 x2 x3 s) := by
  unfold fX10_event_ gX10_event_
  simp only [bd_some, onR_some, bd2_lft, lft_bd, lft_bdm, lft_ite, lft_some, lft_none, pm_kd hw, eX10_isNode hw, eX10_event__13 hw]
set_option maxRecDepth 100000 in
set_option maxHeartbeats 4000000 in
theorem eX10_expire_165 {M : Nat} {h : Hp} (hw : MW M h) (k104 : Int32 → Int32 → Int32 → MS → Option (Int32 × MS)) (c104 : Nat → Int32 → Int32 → Int32 → Hp → Option (Int32 × Hp)) (hk104 : ∀ (x1 : Int32) (x2 : Int32) (x3 : Int32) (s : MS), c104 M x1 x2 x3 (pm M h s) = lft M h (k104 x1 x2 x3 s)) (x1 : Int32) (x2 : Int32) (x3 : Int32) (s : MS) : fX10_expire_165 c104 M x1 x2 x3 (pm M h s) = lft M h (gX10_expire_165 k104 x1 x2 x3 s) := by
  unfold fX10_expire_165 gX10_expire_165
  simp only [bd_some, onR_some, bd2_lft, lft_bd, lft_bdm, lft_ite, lft_some, lft_none, pm_kd hw, hk104]
set_option maxRecDepth 100000 in
set_option maxHeartbeats 4000000 in
theorem eX10_expire_104_body {M : Nat} {h : Hp} (hw : MW M h) (c104 : Nat → Int32 → Int32 → Int32 → Hp → Option (Int32 × Hp)) (k104 : Int32 → Int32 → Int32 → MS → Option (Int32 × MS)) (hk104 : ∀ (x1 : Int32) (x2 : Int32) (x3 : Int32) (s : MS), c104 M x1 x2 x3 (pm M h s) = lft M h (k104 x1 x2 x3 s)) (x1 : Int32) (x2 : Int32) (x3 : Int32) (s : MS) : fX10_expire_104_body c104 M x1 x2 x3 (pm M h s) = lft M h (gX10_expire_104_body k104 x1 x2 x3 s) := by
  unfold fX10_expire_104_body gX10_expire_104_body
  simp only [bd_some, onR_some, bd2_lft, lft_bd, lft_bdm, lft_ite, lft_some, lft_none, pm_kd hw, qR19 hw, qR20 hw, qR5 hw, qg24 hw, ql19 hw, ql20 hw, ql5 hw, qs19 hw, qs20 hw, qs5 hw, qz19 hw, qz20 hw, qz5 hw, eX10_expire_165 hw k104 c104 hk104, eX10_made hw, eX10_termAt hw, hk104]
set_option maxRecDepth 100000 in
set_option maxHeartbeats 4000000 in
theorem eX10_expire_104 {M : Nat} {h : Hp} (hw : MW M h) : ∀ (n : Nat) (x1 : Int32) (x2 : Int32) (x3 : Int32)  (s : MS), fX10_expire_104 n M x1 x2 x3 (pm M h s) = lft M h (gX10_expire_104 n x1 x2 x3 s) := by
  intro n
  induction n with
  | zero => intros; rfl
  | succ n ih => exact eX10_expire_104_body hw _ _ ih
set_option maxRecDepth 100000 in
set_option maxHeartbeats 4000000 in
theorem eX10_expire_45 {M : Nat} {h : Hp} (hw : MW M h) (x1 : Int32) (y0 : Int32) (s : MS) : fX10_expire_45 M x1 y0 M (pm M h s) = lft M h (gX10_expire_45 x1 y0 s) := by
  unfold fX10_expire_45 gX10_expire_45
  simp only [bd_some, onR_some, bd2_lft, lft_bd, lft_bdm, lft_ite, lft_some, lft_none, pm_kd hw, qR2 hw, qR3 hw, qR8 hw, qR9 hw, qg24 hw, ql2 hw, ql3 hw, ql8 hw, ql9 hw, qs2 hw, qs3 hw, qs8 hw, qs9 hw, qz2 hw, qz3 hw, qz8 hw, qz9 hw, eX10_bad hw, eX10_record hw, eX10_expire_104 hw]
set_option maxRecDepth 100000 in
set_option maxHeartbeats 4000000 in
theorem eX10_expire_40 {M : Nat} {h : Hp} (hw : MW M h) (x1 : Int32) (s : MS) : fX10_expire_40 M x1 M (pm M h s) = lft M h (gX10_expire_40 x1 s) := by
  unfold fX10_expire_40 gX10_expire_40
  simp only [bd_some, onR_some, bd2_lft, lft_bd, lft_bdm, lft_ite, lft_some, lft_none, pm_kd hw, eX10_expire_45 hw]
set_option maxRecDepth 100000 in
set_option maxHeartbeats 4000000 in
theorem eX10_expire_13 {M : Nat} {h : Hp} (hw : MW M h) (x1 : Int32) (y0 : Int32) (s : MS) : fX10_expire_13 M x1 y0 M (pm M h s) = lft M h (gX10_expire_13 x1 y0 s) := by
  unfold fX10_expire_13 gX10_expire_13
  simp only [bd_some, onR_some, bd2_lft, lft_bd, lft_bdm, lft_ite, lft_some, lft_none, pm_kd hw, qR1 hw, qR8 hw, ql1 hw, ql8 hw, qs1 hw, qs8 hw, qz1 hw, qz8 hw, eX10_bad hw, eX10_expire_40 hw, eX10_expire_45 hw]
set_option maxRecDepth 100000 in
set_option maxHeartbeats 4000000 in
theorem eX10_expire {M : Nat} {h : Hp} (hw : MW M h) (x1 : Int32) (s : MS) : fX10_expire M x1 (pm M h s) = lft M h (gX10_expire x1 s) := by
  unfold fX10_expire gX10_expire
  simp only [bd_some, onR_some, bd2_lft, lft_bd, lft_bdm, lft_ite, lft_some, lft_none, pm_kd hw, eX10_isNode hw, eX10_expire_13 hw]
set_option maxRecDepth 100000 in
set_option maxHeartbeats 4000000 in
theorem eX10_isKey {M : Nat} {h : Hp} (hw : MW M h) (x0 : Int32) (s : MS) : fX10_isKey x0 (pm M h s) = lft M h (gX10_isKey x0 s) := by
  unfold fX10_isKey gX10_isKey
  simp only [bd_some, onR_some, bd2_lft, lft_bd, lft_bdm, lft_ite, lft_some, lft_none, pm_kd hw]
set_option maxRecDepth 100000 in
set_option maxHeartbeats 4000000 in
theorem eX10_isRight_165 {M : Nat} {h : Hp} (hw : MW M h) (s : MS) : fX10_isRight_165  (pm M h s) = lft M h (gX10_isRight_165  s) := by
  unfold fX10_isRight_165 gX10_isRight_165
  simp only [bd_some, onR_some, bd2_lft, lft_bd, lft_bdm, lft_ite, lft_some, lft_none, pm_kd hw]
