set_option maxRecDepth 100000 in
set_option maxHeartbeats 4000000 in
theorem eX10_isRight_136 {M : Nat} {h : Hp} (hw : MW M h) (x2 : Int32) (s : MS) : fX10_isRight_136 x2 (pm M h s) = lft M h (gX10_isRight_136 x2 s) := by
  unfold fX10_isRight_136 gX10_isRight_136
  simp only [bd_some, onR_some, bd2_lft, lft_bd, lft_bdm, lft_ite, lft_some, lft_none, pm_kd hw]
set_option maxRecDepth 100000 in
set_option maxHeartbeats 4000000 in
theorem eX10_isRight {M : Nat} {h : Hp} (hw : MW M h) (x1 : Int32) (x2 : Int32) (x3 : Int32) (s : MS) : fX10_isRight M x1 x2 x3 (pm M h s) = lft M h (gX10_isRight x1 x2 x3 s) := by
  unfold fX10_isRight gX10_isRight
  simp only [bd_some, onR_some, bd2_lft, lft_bd, lft_bdm, lft_ite, lft_some, lft_none, pm_kd hw, qg28 hw, qg30 hw, eX10_isRight_136 hw, eX10_isRight_165 hw, eX10_isKey hw]
set_option maxRecDepth 100000 in
set_option maxHeartbeats 4000000 in
theorem eX10_key_64 {M : Nat} {h : Hp} (hw : MW M h) (x1 : Int32) (x2 : Int32) (x3 : Int32) (y0 : Int32) (s : MS) : fX10_key_64 M x1 x2 x3 y0 M (pm M h s) = lft M h (gX10_key_64 x1 x2 x3 y0 s) := by
  unfold fX10_key_64 gX10_key_64
  simp only [bd_some, onR_some, bd2_lft, lft_bd, lft_bdm, lft_ite, lft_some, lft_none, pm_kd hw, qR37 hw, ql31 hw, qs31 hw, qz31 hw, eX10_bad hw, eX10_work hw, eX10_says hw]
set_option maxRecDepth 100000 in
set_option maxHeartbeats 4000000 in
theorem eX10_key_59 {M : Nat} {h : Hp} (hw : MW M h) (x1 : Int32) (x2 : Int32) (x3 : Int32) (s : MS) : fX10_key_59 M x1 x2 x3 M (pm M h s) = lft M h (gX10_key_59 x1 x2 x3 s) := by
  unfold fX10_key_59 gX10_key_59
  simp only [bd_some, onR_some, bd2_lft, lft_bd, lft_bdm, lft_ite, lft_some, lft_none, pm_kd hw, eX10_key_64 hw]
set_option maxRecDepth 100000 in
set_option maxHeartbeats 4000000 in
theorem eX10_key_42 {M : Nat} {h : Hp} (hw : MW M h) (x1 : Int32) (x2 : Int32) (x3 : Int32) (y0 : Int32) (s : MS) : fX10_key_42 M x1 x2 x3 y0 M (pm M h s) = lft M h (gX10_key_42 x1 x2 x3 y0 s) := by
  unfold fX10_key_42 gX10_key_42
  simp only [bd_some, onR_some, bd2_lft, lft_bd, lft_bdm, lft_ite, lft_some, lft_none, pm_kd hw, eX10_bad hw, eX10_key_59 hw, eX10_key_64 hw]
set_option maxRecDepth 100000 in
set_option maxHeartbeats 4000000 in
theorem eX10_key_20 {M : Nat} {h : Hp} (hw : MW M h) (x1 : Int32) (x2 : Int32) (x3 : Int32) (y0 : Int32) (s : MS) : fX10_key_20 M x1 x2 x3 y0 M (pm M h s) = lft M h (gX10_key_20 x1 x2 x3 y0 s) := by
  unfold fX10_key_20 gX10_key_20
  simp only [bd_some, onR_some, bd2_lft, lft_bd, lft_bdm, lft_ite, lft_some, lft_none, pm_kd hw, qR1 hw, ql1 hw, qs1 hw, qz1 hw, eX10_bad hw, eX10_key_42 hw]
set_option maxRecDepth 100000 in
set_option maxHeartbeats 4000000 in
theorem eX10_key_15 {M : Nat} {h : Hp} (hw : MW M h) (x1 : Int32) (x2 : Int32) (x3 : Int32) (s : MS) : fX10_key_15 M x1 x2 x3 M (pm M h s) = lft M h (gX10_key_15 x1 x2 x3 s) := by
  unfold fX10_key_15 gX10_key_15
  simp only [bd_some, onR_some, bd2_lft, lft_bd, lft_bdm, lft_ite, lft_some, lft_none, pm_kd hw, eX10_key_20 hw]
set_option maxRecDepth 100000 in
set_option maxHeartbeats 4000000 in
theorem eX10_key {M : Nat} {h : Hp} (hw : MW M h) (x1 : Int32) (x2 : Int32) (x3 : Int32) (s : MS) : fX10_key M x1 x2 x3 (pm M h s) = lft M h (gX10_key x1 x2 x3 s) := by
  unfold fX10_key gX10_key
  simp only [bd_some, onR_some, bd2_lft, lft_bd, lft_bdm, lft_ite, lft_some, lft_none, pm_kd hw, eX10_isNode hw, eX10_key_15 hw, eX10_isKey hw, eX10_key_20 hw]
set_option maxRecDepth 100000 in
set_option maxHeartbeats 4000000 in
theorem eX10_message_41 {M : Nat} {h : Hp} (hw : MW M h) (x1 : Int32) (x2 : Int32) (y0 : Int32) (s : MS) : fX10_message_41 M x1 x2 y0 M (pm M h s) = lft M h (gX10_message_41 x1 x2 y0 s) := by
  unfold fX10_message_41 gX10_message_41
  simp only [bd_some, onR_some, bd2_lft, lft_bd, lft_bdm, lft_ite, lft_some, lft_none, pm_kd hw, qR15 hw, qR16 hw, qR17 hw, qR18 hw, qR19 hw, qR20 hw, qR21 hw, qR22 hw, ql15 hw, ql16 hw, ql17 hw, ql18 hw, ql19 hw, ql20 hw, ql21 hw, ql22 hw, qs15 hw, qs16 hw, qs17 hw, qs18 hw, qs19 hw, qs20 hw, qs21 hw, qs22 hw, qz15 hw, qz16 hw, qz17 hw, qz18 hw, qz19 hw, qz20 hw, qz21 hw, qz22 hw, eX10_bad hw]
set_option maxRecDepth 100000 in
set_option maxHeartbeats 4000000 in
theorem eX10_message_36 {M : Nat} {h : Hp} (hw : MW M h) (x1 : Int32) (x2 : Int32) (s : MS) : fX10_message_36 M x1 x2 M (pm M h s) = lft M h (gX10_message_36 x1 x2 s) := by
  unfold fX10_message_36 gX10_message_36
  simp only [bd_some, onR_some, bd2_lft, lft_bd, lft_bdm, lft_ite, lft_some, lft_none, pm_kd hw, eX10_message_41 hw]
set_option maxRecDepth 100000 in
set_option maxHeartbeats 4000000 in
theorem eX10_message_18 {M : Nat} {h : Hp} (hw : MW M h) (x1 : Int32) (x2 : Int32) (y0 : Int32) (s : MS) : fX10_message_18 M x1 x2 y0 M (pm M h s) = lft M h (gX10_message_18 x1 x2 y0 s) := by
  unfold fX10_message_18 gX10_message_18
  simp only [bd_some, onR_some, bd2_lft, lft_bd, lft_bdm, lft_ite, lft_some, lft_none, pm_kd hw, eX10_bad hw, eX10_message_36 hw, eX10_message_41 hw]
set_option maxRecDepth 100000 in
set_option maxHeartbeats 4000000 in
theorem eX10_message_13 {M : Nat} {h : Hp} (hw : MW M h) (x1 : Int32) (x2 : Int32) (s : MS) : fX10_message_13 M x1 x2 M (pm M h s) = lft M h (gX10_message_13 x1 x2 s) := by
  unfold fX10_message_13 gX10_message_13
  simp only [bd_some, onR_some, bd2_lft, lft_bd, lft_bdm, lft_ite, lft_some, lft_none, pm_kd hw, eX10_message_18 hw]
set_option maxRecDepth 100000 in
set_option maxHeartbeats 4000000 in
theorem eX10_message {M : Nat} {h : Hp} (hw : MW M h) (x1 : Int32) (x2 : Int32) (s : MS) : fX10_message M x1 x2 (pm M h s) = lft M h (gX10_message x1 x2 s) := by
  unfold fX10_message gX10_message
  simp only [bd_some, onR_some, bd2_lft, lft_bd, lft_bdm, lft_ite, lft_some, lft_none, pm_kd hw, qg24 hw, eX10_message_13 hw, eX10_message_18 hw]
set_option maxRecDepth 100000 in
set_option maxHeartbeats 4000000 in
theorem eX10_messages {M : Nat} {h : Hp} (hw : MW M h) (s : MS) : fX10_messages M (pm M h s) = lft M h (gX10_messages  s) := by
  unfold fX10_messages gX10_messages
  simp only [bd_some, onR_some, bd2_lft, lft_bd, lft_bdm, lft_ite, lft_some, lft_none, pm_kd hw, qg24 hw, qp0 hw]
set_option maxRecDepth 100000 in
set_option maxHeartbeats 4000000 in
theorem eX10_more {M : Nat} {h : Hp} (hw : MW M h) (x1 : Int32) (x2 : Int32) (x3 : Int32) (x4 : Int32) (s : MS) : fX10_more M x1 x2 x3 x4 (pm M h s) = lft M h (gX10_more x1 x2 x3 x4 s) := by
  unfold fX10_more gX10_more
  simp only [bd_some, onR_some, bd2_lft, lft_bd, lft_bdm, lft_ite, lft_some, lft_none, pm_kd hw, qp0 hw, qp28 hw, qp29 hw, qp30 hw, qp31 hw]
set_option maxRecDepth 100000 in
set_option maxHeartbeats 4000000 in
theorem eX10_node_307 {M : Nat} {h : Hp} (hw : MW M h) (k281 : Int32 → Int32 → MS → Option (Int32 × MS)) (c281 : Nat → Int32 → Int32 → Hp → Option (Int32 × Hp)) (hk281 : ∀ (x3 : Int32) (x4 : Int32) (s : MS), c281 M x3 x4 (pm M h s) = lft M h (k281 x3 x4 s)) (x3 : Int32) (x4 : Int32) (s : MS) : fX10_node_307 c281 M x3 x4 (pm M h s) = lft M h (gX10_node_307 k281 x3 x4 s) := by
  unfold fX10_node_307 gX10_node_307
  simp only [bd_some, onR_some, bd2_lft, lft_bd, lft_bdm, lft_ite, lft_some, lft_none, pm_kd hw, hk281]
set_option maxRecDepth 100000 in
set_option maxHeartbeats 4000000 in
theorem eX10_node_281_body {M : Nat} {h : Hp} (hw : MW M h) (c281 : Nat → Int32 → Int32 → Hp → Option (Int32 × Hp)) (k281 : Int32 → Int32 → MS → Option (Int32 × MS)) (hk281 : ∀ (x3 : Int32) (x4 : Int32) (s : MS), c281 M x3 x4 (pm M h s) = lft M h (k281 x3 x4 s)) (x3 : Int32) (x4 : Int32) (s : MS) : fX10_node_281_body c281 M x3 x4 (pm M h s) = lft M h (gX10_node_281_body k281 x3 x4 s) := by
  unfold fX10_node_281_body gX10_node_281_body
  simp only [bd_some, onR_some, bd2_lft, lft_bd, lft_bdm, lft_ite, lft_some, lft_none, pm_kd hw, qR38 hw, ql32 hw, qs32 hw, qz32 hw, eX10_node_307 hw k281 c281 hk281, hk281]
set_option maxRecDepth 100000 in
set_option maxHeartbeats 4000000 in
theorem eX10_node_281 {M : Nat} {h : Hp} (hw : MW M h) : ∀ (n : Nat) (x3 : Int32) (x4 : Int32)  (s : MS), fX10_node_281 n M x3 x4 (pm M h s) = lft M h (gX10_node_281 n x3 x4 s) := by
  intro n
  induction n with
  | zero => intros; rfl
  | succ n ih => exact eX10_node_281_body hw _ _ ih
set_option maxRecDepth 100000 in
set_option maxHeartbeats 4000000 in
theorem eX10_node_270 {M : Nat} {h : Hp} (hw : MW M h) (k250 : Int32 → Int32 → MS → Option (Int32 × MS)) (c250 : Nat → Int32 → Int32 → Hp → Option (Int32 × Hp)) (hk250 : ∀ (x3 : Int32) (x4 : Int32) (s : MS), c250 M x3 x4 (pm M h s) = lft M h (k250 x3 x4 s)) (x3 : Int32) (x4 : Int32) (s : MS) : fX10_node_270 c250 M x3 x4 (pm M h s) = lft M h (gX10_node_270 k250 x3 x4 s) := by
  unfold fX10_node_270 gX10_node_270
  simp only [bd_some, onR_some, bd2_lft, lft_bd, lft_bdm, lft_ite, lft_some, lft_none, pm_kd hw, hk250]
set_option maxRecDepth 100000 in
set_option maxHeartbeats 4000000 in
theorem eX10_node_250_body {M : Nat} {h : Hp} (hw : MW M h) (c250 : Nat → Int32 → Int32 → Hp → Option (Int32 × Hp)) (k250 : Int32 → Int32 → MS → Option (Int32 × MS)) (hk250 : ∀ (x3 : Int32) (x4 : Int32) (s : MS), c250 M x3 x4 (pm M h s) = lft M h (k250 x3 x4 s)) (x3 : Int32) (x4 : Int32) (s : MS) : fX10_node_250_body c250 M x3 x4 (pm M h s) = lft M h (gX10_node_250_body k250 x3 x4 s) := by
  unfold fX10_node_250_body gX10_node_250_body
  simp only [bd_some, onR_some, bd2_lft, lft_bd, lft_bdm, lft_ite, lft_some, lft_none, pm_kd hw, qR33 hw, ql27 hw, qs27 hw, qz27 hw, eX10_node_270 hw k250 c250 hk250, hk250]
set_option maxRecDepth 100000 in
set_option maxHeartbeats 4000000 in
theorem eX10_node_250 {M : Nat} {h : Hp} (hw : MW M h) : ∀ (n : Nat) (x3 : Int32) (x4 : Int32)  (s : MS), fX10_node_250 n M x3 x4 (pm M h s) = lft M h (gX10_node_250 n x3 x4 s) := by
  intro n
  induction n with
  | zero => intros; rfl
  | succ n ih => exact eX10_node_250_body hw _ _ ih
set_option maxRecDepth 100000 in
set_option maxHeartbeats 4000000 in
theorem eX10_node_36 {M : Nat} {h : Hp} (hw : MW M h) (x1 : Int32) (x2 : Int32) (y0 : Int32) (s : MS) : fX10_node_36 M x1 x2 y0 M (pm M h s) = lft M h (gX10_node_36 x1 x2 y0 s) := by
  unfold fX10_node_36 gX10_node_36
  simp only [bd_some, onR_some, bd2_lft, lft_bd, lft_bdm, lft_ite, lft_some, lft_none, pm_kd hw, qR1 hw, qR2 hw, qR3 hw, qR4 hw, qR5 hw, qR6 hw, qR8 hw, qg40 hw, qg41 hw, qg42 hw, qg47 hw, ql1 hw, ql2 hw, ql3 hw, ql4 hw, ql5 hw, ql6 hw, ql8 hw, qs1 hw, qs2 hw, qs3 hw, qs4 hw, qs5 hw, qs6 hw, qs8 hw, qz1 hw, qz2 hw, qz3 hw, qz4 hw, qz5 hw, qz6 hw, qz8 hw, eX10_bad hw, eX10_work hw, eX10_firstEvent hw, eX10_node_281 hw, eX10_node_250 hw, eX10_termAt hw]
set_option maxRecDepth 100000 in
set_option maxHeartbeats 4000000 in
theorem eX10_node_31 {M : Nat} {h : Hp} (hw : MW M h) (x1 : Int32) (x2 : Int32) (s : MS) : fX10_node_31 M x1 x2 M (pm M h s) = lft M h (gX10_node_31 x1 x2 s) := by
  unfold fX10_node_31 gX10_node_31
  simp only [bd_some, onR_some, bd2_lft, lft_bd, lft_bdm, lft_ite, lft_some, lft_none, pm_kd hw, eX10_node_36 hw]
set_option maxRecDepth 100000 in
set_option maxHeartbeats 4000000 in
theorem eX10_node_13 {M : Nat} {h : Hp} (hw : MW M h) (x1 : Int32) (x2 : Int32) (y0 : Int32) (s : MS) : fX10_node_13 M x1 x2 y0 M (pm M h s) = lft M h (gX10_node_13 x1 x2 y0 s) := by
  unfold fX10_node_13 gX10_node_13
  simp only [bd_some, onR_some, bd2_lft, lft_bd, lft_bdm, lft_ite, lft_some, lft_none, pm_kd hw, eX10_bad hw, eX10_node_31 hw, eX10_node_36 hw]
set_option maxRecDepth 100000 in
set_option maxHeartbeats 4000000 in
theorem eX10_node {M : Nat} {h : Hp} (hw : MW M h) (x1 : Int32) (x2 : Int32) (s : MS) : fX10_node M x1 x2 (pm M h s) = lft M h (gX10_node x1 x2 s) := by
  unfold fX10_node gX10_node
  simp only [bd_some, onR_some, bd2_lft, lft_bd, lft_bdm, lft_ite, lft_some, lft_none, pm_kd hw, eX10_isNode hw, eX10_node_13 hw]
set_option maxRecDepth 100000 in
set_option maxHeartbeats 4000000 in
theorem eX10_past_165 {M : Nat} {h : Hp} (hw : MW M h) (x4 : Int32) (y0 : Int32) (s : MS) : fX10_past_165 x4 y0 M (pm M h s) = lft M h (gX10_past_165 x4 y0 s) := by
  unfold fX10_past_165 gX10_past_165
  simp only [bd_some, onR_some, bd2_lft, lft_bd, lft_bdm, lft_ite, lft_some, lft_none, pm_kd hw, eX10_bad hw]
set_option maxRecDepth 100000 in
set_option maxHeartbeats 4000000 in
theorem eX10_past_154 {M : Nat} {h : Hp} (hw : MW M h) (x4 : Int32) (x5 : Int32) (s : MS) : fX10_past_154 M x4 x5 (pm M h s) = lft M h (gX10_past_154 x4 x5 s) := by
  unfold fX10_past_154 gX10_past_154
  simp only [bd_some, onR_some, bd2_lft, lft_bd, lft_bdm, lft_ite, lft_some, lft_none, pm_kd hw, eX10_past_165 hw]
set_option maxRecDepth 100000 in
set_option maxHeartbeats 4000000 in
theorem eX10_past_148 {M : Nat} {h : Hp} (hw : MW M h) (k96 : Int32 → Int32 → Int32 → Int32 → Int32 → MS → Option (Int32 × MS)) (c96 : Nat → Int32 → Int32 → Int32 → Int32 → Int32 → Hp → Option (Int32 × Hp)) (hk96 : ∀ (x2 : Int32) (x3 : Int32) (x4 : Int32) (x5 : Int32) (x6 : Int32) (s : MS), c96 M x2 x3 x4 x5 x6 (pm M h s) = lft M h (k96 x2 x3 x4 x5 x6 s)) (x2 : Int32) (x3 : Int32) (x4 : Int32) (x5 : Int32) (x6 : Int32) (s : MS) : fX10_past_148 c96 M x2 x3 x4 x5 x6 (pm M h s) = lft M h (gX10_past_148 k96 x2 x3 x4 x5 x6 s) := by
  unfold fX10_past_148 gX10_past_148
  simp only [bd_some, onR_some, bd2_lft, lft_bd, lft_bdm, lft_ite, lft_some, lft_none, pm_kd hw, hk96]
set_option maxRecDepth 100000 in
set_option maxHeartbeats 4000000 in
theorem eX10_past_96_body {M : Nat} {h : Hp} (hw : MW M h) (c96 : Nat → Int32 → Int32 → Int32 → Int32 → Int32 → Hp → Option (Int32 × Hp)) (k96 : Int32 → Int32 → Int32 → Int32 → Int32 → MS → Option (Int32 × MS)) (hk96 : ∀ (x2 : Int32) (x3 : Int32) (x4 : Int32) (x5 : Int32) (x6 : Int32) (s : MS), c96 M x2 x3 x4 x5 x6 (pm M h s) = lft M h (k96 x2 x3 x4 x5 x6 s)) (x2 : Int32) (x3 : Int32) (x4 : Int32) (x5 : Int32) (x6 : Int32) (s : MS) : fX10_past_96_body c96 M x2 x3 x4 x5 x6 (pm M h s) = lft M h (gX10_past_96_body k96 x2 x3 x4 x5 x6 s) := by
  unfold fX10_past_96_body gX10_past_96_body
  simp only [bd_some, onR_some, bd2_lft, lft_bd, lft_bdm, lft_ite, lft_some, lft_none, pm_kd hw, qR43 hw, qR44 hw, qR45 hw, qR46 hw, qg47 hw, ql34 hw, ql35 hw, ql36 hw, ql37 hw, qs34 hw, qs35 hw, qs36 hw, qs37 hw, qz34 hw, qz35 hw, qz36 hw, qz37 hw, eX10_past_154 hw, eX10_past_148 hw k96 c96 hk96, hk96]
set_option maxRecDepth 100000 in
set_option maxHeartbeats 4000000 in
theorem eX10_past_96 {M : Nat} {h : Hp} (hw : MW M h) : ∀ (n : Nat) (x2 : Int32) (x3 : Int32) (x4 : Int32) (x5 : Int32) (x6 : Int32)  (s : MS), fX10_past_96 n M x2 x3 x4 x5 x6 (pm M h s) = lft M h (gX10_past_96 n x2 x3 x4 x5 x6 s) := by
  intro n
  induction n with
  | zero => intros; rfl
  | succ n ih => exact eX10_past_96_body hw _ _ ih
set_option maxRecDepth 100000 in
set_option maxHeartbeats 4000000 in
theorem eX10_past_78 {M : Nat} {h : Hp} (hw : MW M h) (x2 : Int32) (x3 : Int32) (y0 : Int32) (s : MS) : fX10_past_78 M x2 x3 y0 M (pm M h s) = lft M h (gX10_past_78 x2 x3 y0 s) := by
  unfold fX10_past_78 gX10_past_78
  simp only [bd_some, onR_some, bd2_lft, lft_bd, lft_bdm, lft_ite, lft_some, lft_none, pm_kd hw, eX10_bad hw, eX10_past_96 hw]
set_option maxRecDepth 100000 in
set_option maxHeartbeats 4000000 in
theorem eX10_past_73 {M : Nat} {h : Hp} (hw : MW M h) (x2 : Int32) (x3 : Int32) (s : MS) : fX10_past_73 M x2 x3 M (pm M h s) = lft M h (gX10_past_73 x2 x3 s) := by
  unfold fX10_past_73 gX10_past_73
  simp only [bd_some, onR_some, bd2_lft, lft_bd, lft_bdm, lft_ite, lft_some, lft_none, pm_kd hw, eX10_past_78 hw]
set_option maxRecDepth 100000 in
set_option maxHeartbeats 4000000 in
theorem eX10_past_42 {M : Nat} {h : Hp} (hw : MW M h) (x1 : Int32) (x2 : Int32) (x3 : Int32) (y0 : Int32) (s : MS) : fX10_past_42 M x1 x2 x3 y0 M (pm M h s) = lft M h (gX10_past_42 x1 x2 x3 y0 s) := by
  unfold fX10_past_42 gX10_past_42
  simp only [bd_some, onR_some, bd2_lft, lft_bd, lft_bdm, lft_ite, lft_some, lft_none, pm_kd hw, qg40 hw, qg42 hw, eX10_bad hw, eX10_work hw, eX10_past_73 hw, eX10_past_78 hw]
set_option maxRecDepth 100000 in
set_option maxHeartbeats 4000000 in
theorem eX10_past_20 {M : Nat} {h : Hp} (hw : MW M h) (x1 : Int32) (x2 : Int32) (x3 : Int32) (y0 : Int32) (s : MS) : fX10_past_20 M x1 x2 x3 y0 M (pm M h s) = lft M h (gX10_past_20 x1 x2 x3 y0 s) := by
  unfold fX10_past_20 gX10_past_20
  simp only [bd_some, onR_some, bd2_lft, lft_bd, lft_bdm, lft_ite, lft_some, lft_none, pm_kd hw, qR1 hw, ql1 hw, qs1 hw, qz1 hw, eX10_bad hw, eX10_past_42 hw]
set_option maxRecDepth 100000 in
set_option maxHeartbeats 4000000 in
theorem eX10_past_15 {M : Nat} {h : Hp} (hw : MW M h) (x1 : Int32) (x2 : Int32) (x3 : Int32) (s : MS) : fX10_past_15 M x1 x2 x3 M (pm M h s) = lft M h (gX10_past_15 x1 x2 x3 s) := by
  unfold fX10_past_15 gX10_past_15
  simp only [bd_some, onR_some, bd2_lft, lft_bd, lft_bdm, lft_ite, lft_some, lft_none, pm_kd hw, eX10_past_20 hw]
set_option maxRecDepth 100000 in
set_option maxHeartbeats 4000000 in
theorem eX10_past {M : Nat} {h : Hp} (hw : MW M h) (x1 : Int32) (x2 : Int32) (x3 : Int32) (s : MS) : fX10_past M x1 x2 x3 (pm M h s) = lft M h (gX10_past x1 x2 x3 s) := by
  unfold fX10_past gX10_past
  simp only [bd_some, onR_some, bd2_lft, lft_bd, lft_bdm, lft_ite, lft_some, lft_none, pm_kd hw, eX10_isNode hw, eX10_past_15 hw, eX10_isKey hw, eX10_past_20 hw]
set_option maxRecDepth 100000 in
set_option maxHeartbeats 4000000 in
theorem eX10_power_37 {M : Nat} {h : Hp} (hw : MW M h) (x1 : Int32) (x2 : Int32) (y0 : Int32) (s : MS) : fX10_power_37 M x1 x2 y0 M (pm M h s) = lft M h (gX10_power_37 x1 x2 y0 s) := by
  unfold fX10_power_37 gX10_power_37
  simp only [bd_some, onR_some, bd2_lft, lft_bd, lft_bdm, lft_ite, lft_some, lft_none, pm_kd hw, qR10 hw, ql10 hw, qs10 hw, qz10 hw, eX10_bad hw]
set_option maxRecDepth 100000 in
set_option maxHeartbeats 4000000 in
theorem eX10_power_32 {M : Nat} {h : Hp} (hw : MW M h) (x1 : Int32) (x2 : Int32) (s : MS) : fX10_power_32 M x1 x2 M (pm M h s) = lft M h (gX10_power_32 x1 x2 s) := by
  unfold fX10_power_32 gX10_power_32
  simp only [bd_some, onR_some, bd2_lft, lft_bd, lft_bdm, lft_ite, lft_some, lft_none, pm_kd hw, eX10_power_37 hw]
set_option maxRecDepth 100000 in
set_option maxHeartbeats 4000000 in
theorem eX10_power_13 {M : Nat} {h : Hp} (hw : MW M h) (x1 : Int32) (x2 : Int32) (y0 : Int32) (s : MS) : fX10_power_13 M x1 x2 y0 M (pm M h s) = lft M h (gX10_power_13 x1 x2 y0 s) := by
  unfold fX10_power_13 gX10_power_13
  simp only [bd_some, onR_some, bd2_lft, lft_bd, lft_bdm, lft_ite, lft_some, lft_none, pm_kd hw, eX10_bad hw, eX10_power_32 hw, eX10_power_37 hw]
set_option maxRecDepth 100000 in
set_option maxHeartbeats 4000000 in
theorem eX10_power {M : Nat} {h : Hp} (hw : MW M h) (x1 : Int32) (x2 : Int32) (s : MS) : fX10_power M x1 x2 (pm M h s) = lft M h (gX10_power x1 x2 s) := by
  unfold fX10_power gX10_power
  simp only [bd_some, onR_some, bd2_lft, lft_bd, lft_bdm, lft_ite, lft_some, lft_none, pm_kd hw, eX10_isNode hw, eX10_power_13 hw]
set_option maxRecDepth 100000 in
set_option maxHeartbeats 4000000 in
theorem eX10_propose_81 {M : Nat} {h : Hp} (hw : MW M h) (x1 : Int32) (x2 : Int32) (x3 : Int32) (x4 : Int32) (y0 : Int32) (s : MS) : fX10_propose_81 M x1 x2 x3 x4 y0 M (pm M h s) = lft M h (gX10_propose_81 x1 x2 x3 x4 y0 s) := by
  unfold fX10_propose_81 gX10_propose_81
  simp only [bd_some, onR_some, bd2_lft, lft_bd, lft_bdm, lft_ite, lft_some, lft_none, pm_kd hw, qR5 hw, qg28 hw, qg29 hw, qg30 hw, qg31 hw, ql5 hw, qs5 hw, qz5 hw, eX10_bad hw, eX10_adds hw]
set_option maxRecDepth 100000 in
set_option maxHeartbeats 4000000 in
theorem eX10_propose_76 {M : Nat} {h : Hp} (hw : MW M h) (x1 : Int32) (x2 : Int32) (x3 : Int32) (x4 : Int32) (s : MS) : fX10_propose_76 M x1 x2 x3 x4 M (pm M h s) = lft M h (gX10_propose_76 x1 x2 x3 x4 s) := by
  unfold fX10_propose_76 gX10_propose_76
  simp only [bd_some, onR_some, bd2_lft, lft_bd, lft_bdm, lft_ite, lft_some, lft_none, pm_kd hw, eX10_propose_81 hw]
set_option maxRecDepth 100000 in
set_option maxHeartbeats 4000000 in
theorem eX10_propose_37 {M : Nat} {h : Hp} (hw : MW M h) (x1 : Int32) (x2 : Int32) (x3 : Int32) (x4 : Int32) (y0 : Int32) (s : MS) : fX10_propose_37 M x1 x2 x3 x4 y0 M (pm M h s) = lft M h (gX10_propose_37 x1 x2 x3 x4 y0 s) := by
  unfold fX10_propose_37 gX10_propose_37
  simp only [bd_some, onR_some, bd2_lft, lft_bd, lft_bdm, lft_ite, lft_some, lft_none, pm_kd hw, qR1 hw, qR5 hw, qR8 hw, ql1 hw, ql5 hw, ql8 hw, qs1 hw, qs5 hw, qs8 hw, qz1 hw, qz5 hw, qz8 hw, eX10_bad hw, eX10_propose_76 hw, eX10_propose_81 hw]
set_option maxRecDepth 100000 in
set_option maxHeartbeats 4000000 in
theorem eX10_propose_13 {M : Nat} {h : Hp} (hw : MW M h) (x1 : Int32) (x2 : Int32) (x3 : Int32) (x4 : Int32) (y0 : Int32) (s : MS) : fX10_propose_13 M x1 x2 x3 x4 y0 M (pm M h s) = lft M h (gX10_propose_13 x1 x2 x3 x4 y0 s) := by
  unfold fX10_propose_13 gX10_propose_13
  simp only [bd_some, onR_some, bd2_lft, lft_bd, lft_bdm, lft_ite, lft_some, lft_none, pm_kd hw, eX10_bad hw, eX10_isRight hw, eX10_propose_37 hw]
set_option maxRecDepth 100000 in
set_option maxHeartbeats 4000000 in
theorem eX10_propose {M : Nat} {h : Hp} (hw : MW M h) (x1 : Int32) (x2 : Int32) (x3 : Int32) (x4 : Int32) (s : MS) : fX10_propose M x1 x2 x3 x4 (pm M h s) = lft M h (gX10_propose x1 x2 x3 x4 s) := by
  unfold fX10_propose gX10_propose
  simp only [bd_some, onR_some, bd2_lft, lft_bd, lft_bdm, lft_ite, lft_some, lft_none, pm_kd hw, eX10_isNode hw, eX10_propose_13 hw]
set_option maxRecDepth 100000 in
set_option maxHeartbeats 4000000 in
theorem eX10_result_55 {M : Nat} {h : Hp} (hw : MW M h) (x1 : Int32) (x2 : Int32) (y0 : Int32) (s : MS) : fX10_result_55 M x1 x2 y0 M (pm M h s) = lft M h (gX10_result_55 x1 x2 y0 s) := by
  unfold fX10_result_55 gX10_result_55
  simp only [bd_some, onR_some, bd2_lft, lft_bd, lft_bdm, lft_ite, lft_some, lft_none, pm_kd hw, qR48 hw, ql38 hw, qs38 hw, qz38 hw, eX10_bad hw, eX10_work hw]
set_option maxRecDepth 100000 in
set_option maxHeartbeats 4000000 in
theorem eX10_result_50 {M : Nat} {h : Hp} (hw : MW M h) (x1 : Int32) (x2 : Int32) (s : MS) : fX10_result_50 M x1 x2 M (pm M h s) = lft M h (gX10_result_50 x1 x2 s) := by
  unfold fX10_result_50 gX10_result_50
  simp only [bd_some, onR_some, bd2_lft, lft_bd, lft_bdm, lft_ite, lft_some, lft_none, pm_kd hw, eX10_result_55 hw]
set_option maxRecDepth 100000 in
set_option maxHeartbeats 4000000 in
theorem eX10_result_13 {M : Nat} {h : Hp} (hw : MW M h) (x1 : Int32) (x2 : Int32) (y0 : Int32) (s : MS) : fX10_result_13 M x1 x2 y0 M (pm M h s) = lft M h (gX10_result_13 x1 x2 y0 s) := by
  unfold fX10_result_13 gX10_result_13
  simp only [bd_some, onR_some, bd2_lft, lft_bd, lft_bdm, lft_ite, lft_some, lft_none, pm_kd hw, qR1 hw, qR6 hw, qR7 hw, ql1 hw, ql6 hw, ql7 hw, qs1 hw, qs6 hw, qs7 hw, qz1 hw, qz6 hw, qz7 hw, eX10_bad hw, eX10_result_50 hw, eX10_result_55 hw]
set_option maxRecDepth 100000 in
set_option maxHeartbeats 4000000 in
theorem eX10_result {M : Nat} {h : Hp} (hw : MW M h) (x1 : Int32) (x2 : Int32) (s : MS) : fX10_result M x1 x2 (pm M h s) = lft M h (gX10_result x1 x2 s) := by
  unfold fX10_result gX10_result
  simp only [bd_some, onR_some, bd2_lft, lft_bd, lft_bdm, lft_ite, lft_some, lft_none, pm_kd hw, eX10_isNode hw, eX10_result_13 hw]
set_option maxRecDepth 100000 in
set_option maxHeartbeats 4000000 in
theorem eX10_shrink_50 {M : Nat} {h : Hp} (hw : MW M h) (x1 : Int32) (y0 : Int32) (s : MS) : fX10_shrink_50 M x1 y0 M (pm M h s) = lft M h (gX10_shrink_50 x1 y0 s) := by
  unfold fX10_shrink_50 gX10_shrink_50
  simp only [bd_some, onR_some, bd2_lft, lft_bd, lft_bdm, lft_ite, lft_some, lft_none, pm_kd hw, qR4 hw, qR6 hw, ql4 hw, ql6 hw, qs4 hw, qs6 hw, qz4 hw, qz6 hw, eX10_bad hw, eX10_record hw]
set_option maxRecDepth 100000 in
set_option maxHeartbeats 4000000 in
theorem eX10_shrink_45 {M : Nat} {h : Hp} (hw : MW M h) (x1 : Int32) (s : MS) : fX10_shrink_45 M x1 M (pm M h s) = lft M h (gX10_shrink_45 x1 s) := by
  unfold fX10_shrink_45 gX10_shrink_45
  simp only [bd_some, onR_some, bd2_lft, lft_bd, lft_bdm, lft_ite, lft_some, lft_none, pm_kd hw, eX10_shrink_50 hw]
set_option maxRecDepth 100000 in
set_option maxHeartbeats 4000000 in
theorem eX10_shrink_13 {M : Nat} {h : Hp} (hw : MW M h) (x1 : Int32) (y0 : Int32) (s : MS) : fX10_shrink_13 M x1 y0 M (pm M h s) = lft M h (gX10_shrink_13 x1 y0 s) := by
  unfold fX10_shrink_13 gX10_shrink_13
  simp only [bd_some, onR_some, bd2_lft, lft_bd, lft_bdm, lft_ite, lft_some, lft_none, pm_kd hw, qR1 hw, qR4 hw, qR6 hw, ql1 hw, ql4 hw, ql6 hw, qs1 hw, qs4 hw, qs6 hw, qz1 hw, qz4 hw, qz6 hw, eX10_bad hw, eX10_shrink_45 hw, eX10_shrink_50 hw]
set_option maxRecDepth 100000 in
set_option maxHeartbeats 4000000 in
theorem eX10_shrink {M : Nat} {h : Hp} (hw : MW M h) (x1 : Int32) (s : MS) : fX10_shrink M x1 (pm M h s) = lft M h (gX10_shrink x1 s) := by
  unfold fX10_shrink gX10_shrink
  simp only [bd_some, onR_some, bd2_lft, lft_bd, lft_bdm, lft_ite, lft_some, lft_none, pm_kd hw, eX10_isNode hw, eX10_shrink_13 hw]
set_option maxRecDepth 100000 in
set_option maxHeartbeats 4000000 in
theorem eX10_start_13 {M : Nat} {h : Hp} (hw : MW M h) (x1 : Int32) (y0 : Int32) (s : MS) : fX10_start_13 M x1 y0 M (pm M h s) = lft M h (gX10_start_13 x1 y0 s) := by
  unfold fX10_start_13 gX10_start_13
  simp only [bd_some, onR_some, bd2_lft, lft_bd, lft_bdm, lft_ite, lft_some, lft_none, pm_kd hw, qR1 hw, qR4 hw, qR5 hw, qR6 hw, qR7 hw, qR9 hw, ql1 hw, ql4 hw, ql5 hw, ql6 hw, ql7 hw, ql9 hw, qs1 hw, qs4 hw, qs5 hw, qs6 hw, qs7 hw, qs9 hw, qz1 hw, qz4 hw, qz5 hw, qz6 hw, qz7 hw, qz9 hw, eX10_bad hw]
set_option maxRecDepth 100000 in
set_option maxHeartbeats 4000000 in
theorem eX10_start {M : Nat} {h : Hp} (hw : MW M h) (x1 : Int32) (s : MS) : fX10_start M x1 (pm M h s) = lft M h (gX10_start x1 s) := by
  unfold fX10_start gX10_start
  simp only [bd_some, onR_some, bd2_lft, lft_bd, lft_bdm, lft_ite, lft_some, lft_none, pm_kd hw, eX10_isNode hw, eX10_start_13 hw]
set_option maxRecDepth 100000 in
set_option maxHeartbeats 4000000 in
theorem eX10_thrown {M : Nat} {h : Hp} (hw : MW M h) (s : MS) : fX10_thrown M (pm M h s) = lft M h (gX10_thrown  s) := by
  unfold fX10_thrown gX10_thrown
  simp only [bd_some, onR_some, bd2_lft, lft_bd, lft_bdm, lft_ite, lft_some, lft_none, pm_kd hw, qg0 hw]
