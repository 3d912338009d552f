set_option maxRecDepth 100000 in
set_option maxHeartbeats 4000000 in
theorem eX7_addEvent {M : Nat} {h : Hp} (hw : SW M h) (x1 : Int64) (s : SS) : fX7_addEvent M x1 (ps M h s) = lf7 M h (gX7_addEvent x1 s) := by
  unfold fX7_addEvent gX7_addEvent
  simp only [bd_some, onR_some, bd2_lf7, lf7_bd, lf7_bd7, lf7_ite, lf7_some, lf7_none, ps_kd hw, jR2 hw, jc1 hw, jg3 hw, jl1 hw, jp3 hw, js1 hw]
set_option maxRecDepth 100000 in
set_option maxHeartbeats 4000000 in
theorem eX7_bitOfLease {M : Nat} {h : Hp} (hw : SW M h) (x0 : Int32) (s : SS) : fX7_bitOfLease x0 (ps M h s) = lf7 M h (gX7_bitOfLease x0 s) := by
  unfold fX7_bitOfLease gX7_bitOfLease
  simp only [bd_some, onR_some, bd2_lf7, lf7_bd, lf7_bd7, lf7_ite, lf7_some, lf7_none, ps_kd hw]
set_option maxRecDepth 100000 in
set_option maxHeartbeats 4000000 in
theorem eX7_isPut {M : Nat} {h : Hp} (hw : SW M h) (x0 : Int64) (s : SS) : fX7_isPut x0 (ps M h s) = lf7 M h (gX7_isPut x0 s) := by
  unfold fX7_isPut gX7_isPut
  simp only [bd_some, onR_some, bd2_lf7, lf7_bd, lf7_bd7, lf7_ite, lf7_some, lf7_none, ps_kd hw]
set_option maxRecDepth 100000 in
set_option maxHeartbeats 4000000 in
theorem eX7_revisionOf {M : Nat} {h : Hp} (hw : SW M h) (x0 : Int64) (s : SS) : fX7_revisionOf x0 (ps M h s) = lf7 M h (gX7_revisionOf x0 s) := by
  unfold fX7_revisionOf gX7_revisionOf
  simp only [bd_some, onR_some, bd2_lf7, lf7_bd, lf7_bd7, lf7_ite, lf7_some, lf7_none, ps_kd hw, eX7_isPut hw]
set_option maxRecDepth 100000 in
set_option maxHeartbeats 4000000 in
theorem eX7_keyOf {M : Nat} {h : Hp} (hw : SW M h) (x0 : Int64) (s : SS) : fX7_keyOf x0 (ps M h s) = lf7 M h (gX7_keyOf x0 s) := by
  unfold fX7_keyOf gX7_keyOf
  simp only [bd_some, onR_some, bd2_lf7, lf7_bd, lf7_bd7, lf7_ite, lf7_some, lf7_none, ps_kd hw, eX7_isPut hw]
set_option maxRecDepth 100000 in
set_option maxHeartbeats 4000000 in
theorem eX7_valueOf {M : Nat} {h : Hp} (hw : SW M h) (x0 : Int64) (s : SS) : fX7_valueOf x0 (ps M h s) = lf7 M h (gX7_valueOf x0 s) := by
  unfold fX7_valueOf gX7_valueOf
  simp only [bd_some, onR_some, bd2_lf7, lf7_bd, lf7_bd7, lf7_ite, lf7_some, lf7_none, ps_kd hw, eX7_isPut hw]
set_option maxRecDepth 100000 in
set_option maxHeartbeats 4000000 in
theorem eX7_forgetCompacted_96 {M : Nat} {h : Hp} (hw : SW M h) (x1 : Int32) (s : SS) : fX7_forgetCompacted_96 M x1 (ps M h s) = lf7 M h (gX7_forgetCompacted_96 x1 s) := by
  unfold fX7_forgetCompacted_96 gX7_forgetCompacted_96
  simp only [bd_some, onR_some, bd2_lf7, lf7_bd, lf7_bd7, lf7_ite, lf7_some, lf7_none, ps_kd hw, jR2 hw, jc1 hw, jg3 hw, jl1 hw, jp3 hw, js1 hw]
set_option maxRecDepth 100000 in
set_option maxHeartbeats 4000000 in
theorem eX7_forgetCompacted_72 {M : Nat} {h : Hp} (hw : SW M h) (k2 : Int32 → SS → Option (Unit × SS)) (c2 : Nat → Int32 → Hp → Option (Unit × Hp)) (hk2 : ∀ (x1 : Int32) (s : SS), c2 M x1 (ps M h s) = lf7 M h (k2 x1 s)) (x1 : Int32) (x2 : Int32) (y0 : Int64) (s : SS) : fX7_forgetCompacted_72 c2 M x1 x2 y0 M (ps M h s) = lf7 M h (gX7_forgetCompacted_72 k2 x1 x2 y0 s) := by
  unfold fX7_forgetCompacted_72 gX7_forgetCompacted_72
  simp only [bd_some, onR_some, bd2_lf7, lf7_bd, lf7_bd7, lf7_ite, lf7_some, lf7_none, ps_kd hw, jR11 hw, jR2 hw, jc1 hw, jl1 hw, jl7 hw, jp10 hw, js1 hw, js7 hw, eX7_valueOf hw, hk2]
set_option maxRecDepth 100000 in
set_option maxHeartbeats 4000000 in
theorem eX7_forgetCompacted_2_body {M : Nat} {h : Hp} (hw : SW M h) (c2 : Nat → Int32 → Hp → Option (Unit × Hp)) (k2 : Int32 → SS → Option (Unit × SS)) (hk2 : ∀ (x1 : Int32) (s : SS), c2 M x1 (ps M h s) = lf7 M h (k2 x1 s)) (x1 : Int32) (s : SS) : fX7_forgetCompacted_2_body c2 M x1 (ps M h s) = lf7 M h (gX7_forgetCompacted_2_body k2 x1 s) := by
  unfold fX7_forgetCompacted_2_body gX7_forgetCompacted_2_body
  simp only [bd_some, onR_some, bd2_lf7, lf7_bd, lf7_bd7, lf7_ite, lf7_some, lf7_none, ps_kd hw, jR2 hw, jc1 hw, jg1 hw, jg10 hw, jg3 hw, jl1 hw, js1 hw, eX7_forgetCompacted_96 hw, eX7_revisionOf hw, eX7_keyOf hw, eX7_isPut hw, eX7_forgetCompacted_72 hw k2 c2 hk2, hk2]
set_option maxRecDepth 100000 in
set_option maxHeartbeats 4000000 in
theorem eX7_forgetCompacted_2 {M : Nat} {h : Hp} (hw : SW M h) : ∀ (n : Nat) (x1 : Int32)  (s : SS), fX7_forgetCompacted_2 n M x1 (ps M h s) = lf7 M h (gX7_forgetCompacted_2 n x1 s) := by
  intro n
  induction n with
  | zero => intros; rfl
  | succ n ih => exact eX7_forgetCompacted_2_body hw _ _ ih
set_option maxRecDepth 100000 in
set_option maxHeartbeats 4000000 in
theorem eX7_forgetCompacted {M : Nat} {h : Hp} (hw : SW M h) (s : SS) : fX7_forgetCompacted M (ps M h s) = lf7 M h (gX7_forgetCompacted  s) := by
  unfold fX7_forgetCompacted gX7_forgetCompacted
  simp only [bd_some, onR_some, bd2_lf7, lf7_bd, lf7_bd7, lf7_ite, lf7_some, lf7_none, ps_kd hw, eX7_forgetCompacted_2 hw]
set_option maxRecDepth 100000 in
set_option maxHeartbeats 4000000 in
theorem eX7_compact {M : Nat} {h : Hp} (hw : SW M h) (x1 : Int32) (s : SS) : fX7_compact M x1 (ps M h s) = lf7 M h (gX7_compact x1 s) := by
  unfold fX7_compact gX7_compact
  simp only [bd_some, onR_some, bd2_lf7, lf7_bd, lf7_bd7, lf7_ite, lf7_some, lf7_none, ps_kd hw, jg0 hw, jg1 hw, jp1 hw, eX7_forgetCompacted hw]
set_option maxRecDepth 100000 in
set_option maxHeartbeats 4000000 in
theorem eX7_compares {M : Nat} {h : Hp} (hw : SW M h) (x0 : Int32) (x1 : Int32) (x2 : Int32) (s : SS) : fX7_compares x0 x1 x2 (ps M h s) = lf7 M h (gX7_compares x0 x1 x2 s) := by
  unfold fX7_compares gX7_compares
  simp only [bd_some, onR_some, bd2_lf7, lf7_bd, lf7_bd7, lf7_ite, lf7_some, lf7_none, ps_kd hw]
set_option maxRecDepth 100000 in
set_option maxHeartbeats 4000000 in
theorem eX7_endRevision {M : Nat} {h : Hp} (hw : SW M h) (x1 : Int32) (s : SS) : fX7_endRevision M x1 (ps M h s) = lf7 M h (gX7_endRevision x1 s) := by
  unfold fX7_endRevision gX7_endRevision
  simp only [bd_some, onR_some, bd2_lf7, lf7_bd, lf7_bd7, lf7_ite, lf7_some, lf7_none, ps_kd hw, jg0 hw, jp0 hw]
set_option maxRecDepth 100000 in
set_option maxHeartbeats 4000000 in
theorem eX7_keysThere_22 {M : Nat} {h : Hp} (hw : SW M h) (k4 : Int32 → Int32 → SS → Option (Int32 × SS)) (c4 : Nat → Int32 → Int32 → Hp → Option (Int32 × Hp)) (hk4 : ∀ (x1 : Int32) (x2 : Int32) (s : SS), c4 M x1 x2 (ps M h s) = lf7 M h (k4 x1 x2 s)) (x1 : Int32) (x2 : Int32) (s : SS) : fX7_keysThere_22 c4 M x1 x2 (ps M h s) = lf7 M h (gX7_keysThere_22 k4 x1 x2 s) := by
  unfold fX7_keysThere_22 gX7_keysThere_22
  simp only [bd_some, onR_some, bd2_lf7, lf7_bd, lf7_bd7, lf7_ite, lf7_some, lf7_none, ps_kd hw, hk4]
set_option maxRecDepth 100000 in
set_option maxHeartbeats 4000000 in
theorem eX7_keysThere_4_body {M : Nat} {h : Hp} (hw : SW M h) (c4 : Nat → Int32 → Int32 → Hp → Option (Int32 × Hp)) (k4 : Int32 → Int32 → SS → Option (Int32 × SS)) (hk4 : ∀ (x1 : Int32) (x2 : Int32) (s : SS), c4 M x1 x2 (ps M h s) = lf7 M h (k4 x1 x2 s)) (x1 : Int32) (x2 : Int32) (s : SS) : fX7_keysThere_4_body c4 M x1 x2 (ps M h s) = lf7 M h (gX7_keysThere_4_body k4 x1 x2 s) := by
  unfold fX7_keysThere_4_body gX7_keysThere_4_body
  simp only [bd_some, onR_some, bd2_lf7, lf7_bd, lf7_bd7, lf7_ite, lf7_some, lf7_none, ps_kd hw, jR5 hw, jl2 hw, js2 hw, eX7_keysThere_22 hw k4 c4 hk4, hk4]
set_option maxRecDepth 100000 in
set_option maxHeartbeats 4000000 in
theorem eX7_keysThere_4 {M : Nat} {h : Hp} (hw : SW M h) : ∀ (n : Nat) (x1 : Int32) (x2 : Int32)  (s : SS), fX7_keysThere_4 n M x1 x2 (ps M h s) = lf7 M h (gX7_keysThere_4 n x1 x2 s) := by
  intro n
  induction n with
  | zero => intros; rfl
  | succ n ih => exact eX7_keysThere_4_body hw _ _ ih
set_option maxRecDepth 100000 in
set_option maxHeartbeats 4000000 in
theorem eX7_keysThere {M : Nat} {h : Hp} (hw : SW M h) (s : SS) : fX7_keysThere M (ps M h s) = lf7 M h (gX7_keysThere  s) := by
  unfold fX7_keysThere gX7_keysThere
  simp only [bd_some, onR_some, bd2_lf7, lf7_bd, lf7_bd7, lf7_ite, lf7_some, lf7_none, ps_kd hw, eX7_keysThere_4 hw]
set_option maxRecDepth 100000 in
set_option maxHeartbeats 4000000 in
theorem eX7_field {M : Nat} {h : Hp} (hw : SW M h) (x1 : Int32) (s : SS) : fX7_field M x1 (ps M h s) = lf7 M h (gX7_field x1 s) := by
  unfold fX7_field gX7_field
  simp only [bd_some, onR_some, bd2_lf7, lf7_bd, lf7_bd7, lf7_ite, lf7_some, lf7_none, ps_kd hw, jg0 hw, jg1 hw, jg12 hw, jg3 hw, jg4 hw, eX7_keysThere hw]
set_option maxRecDepth 100000 in
set_option maxHeartbeats 4000000 in
theorem eX7_fingerprint_108_body {M : Nat} {h : Hp} (hw : SW M h) (c108 : Nat → Int64 → Int32 → Hp → Option (Int64 × Hp)) (k108 : Int64 → Int32 → SS → Option (Int64 × SS)) (hk108 : ∀ (x1 : Int64) (x3 : Int32) (s : SS), c108 M x1 x3 (ps M h s) = lf7 M h (k108 x1 x3 s)) (x1 : Int64) (x3 : Int32) (s : SS) : fX7_fingerprint_108_body c108 M x1 x3 (ps M h s) = lf7 M h (gX7_fingerprint_108_body k108 x1 x3 s) := by
  unfold fX7_fingerprint_108_body gX7_fingerprint_108_body
  simp only [bd_some, onR_some, bd2_lf7, lf7_bd, lf7_bd7, lf7_ite, lf7_some, lf7_none, ps_kd hw, jR2 hw, jc1 hw, jg0 hw, jg3 hw, jl1 hw, js1 hw, hk108]
set_option maxRecDepth 100000 in
set_option maxHeartbeats 4000000 in
theorem eX7_fingerprint_108 {M : Nat} {h : Hp} (hw : SW M h) : ∀ (n : Nat) (x1 : Int64) (x3 : Int32)  (s : SS), fX7_fingerprint_108 n M x1 x3 (ps M h s) = lf7 M h (gX7_fingerprint_108 n x1 x3 s) := by
  intro n
  induction n with
  | zero => intros; rfl
  | succ n ih => exact eX7_fingerprint_108_body hw _ _ ih
set_option maxRecDepth 100000 in
set_option maxHeartbeats 4000000 in
theorem eX7_fingerprint_100 {M : Nat} {h : Hp} (hw : SW M h) (k6 : Int64 → Int32 → SS → Option (Int64 × SS)) (c6 : Nat → Int64 → Int32 → Hp → Option (Int64 × Hp)) (hk6 : ∀ (x1 : Int64) (x3 : Int32) (s : SS), c6 M x1 x3 (ps M h s) = lf7 M h (k6 x1 x3 s)) (x1 : Int64) (x3 : Int32) (s : SS) : fX7_fingerprint_100 c6 M x1 x3 (ps M h s) = lf7 M h (gX7_fingerprint_100 k6 x1 x3 s) := by
  unfold fX7_fingerprint_100 gX7_fingerprint_100
  simp only [bd_some, onR_some, bd2_lf7, lf7_bd, lf7_bd7, lf7_ite, lf7_some, lf7_none, ps_kd hw, hk6]
set_option maxRecDepth 100000 in
set_option maxHeartbeats 4000000 in
theorem eX7_fingerprint_6_body {M : Nat} {h : Hp} (hw : SW M h) (c6 : Nat → Int64 → Int32 → Hp → Option (Int64 × Hp)) (k6 : Int64 → Int32 → SS → Option (Int64 × SS)) (hk6 : ∀ (x1 : Int64) (x3 : Int32) (s : SS), c6 M x1 x3 (ps M h s) = lf7 M h (k6 x1 x3 s)) (x1 : Int64) (x3 : Int32) (s : SS) : fX7_fingerprint_6_body c6 M x1 x3 (ps M h s) = lf7 M h (gX7_fingerprint_6_body k6 x1 x3 s) := by
  unfold fX7_fingerprint_6_body gX7_fingerprint_6_body
  simp only [bd_some, onR_some, bd2_lf7, lf7_bd, lf7_bd7, lf7_ite, lf7_some, lf7_none, ps_kd hw, jR5 hw, jR6 hw, jR7 hw, jR8 hw, jR9 hw, jl2 hw, jl3 hw, jl4 hw, jl5 hw, jl6 hw, js2 hw, js3 hw, js4 hw, js5 hw, js6 hw, eX7_fingerprint_100 hw k6 c6 hk6, eX7_fingerprint_108 hw, hk6]
set_option maxRecDepth 100000 in
set_option maxHeartbeats 4000000 in
theorem eX7_fingerprint_6 {M : Nat} {h : Hp} (hw : SW M h) : ∀ (n : Nat) (x1 : Int64) (x3 : Int32)  (s : SS), fX7_fingerprint_6 n M x1 x3 (ps M h s) = lf7 M h (gX7_fingerprint_6 n x1 x3 s) := by
  intro n
  induction n with
  | zero => intros; rfl
  | succ n ih => exact eX7_fingerprint_6_body hw _ _ ih
set_option maxRecDepth 100000 in
set_option maxHeartbeats 4000000 in
theorem eX7_fingerprint {M : Nat} {h : Hp} (hw : SW M h) (s : SS) : fX7_fingerprint M (ps M h s) = lf7 M h (gX7_fingerprint  s) := by
  unfold fX7_fingerprint gX7_fingerprint
  simp only [bd_some, onR_some, bd2_lf7, lf7_bd, lf7_bd7, lf7_ite, lf7_some, lf7_none, ps_kd hw, eX7_fingerprint_6 hw]
set_option maxRecDepth 100000 in
set_option maxHeartbeats 4000000 in
theorem eX7_firstEventFrom_2_body {M : Nat} {h : Hp} (hw : SW M h) (c2 : Nat → Int32 → Int32 → Hp → Option (Int32 × Hp)) (k2 : Int32 → Int32 → SS → Option (Int32 × SS)) (hk2 : ∀ (x1 : Int32) (x2 : Int32) (s : SS), c2 M x1 x2 (ps M h s) = lf7 M h (k2 x1 x2 s)) (x1 : Int32) (x2 : Int32) (s : SS) : fX7_firstEventFrom_2_body c2 M x1 x2 (ps M h s) = lf7 M h (gX7_firstEventFrom_2_body k2 x1 x2 s) := by
  unfold fX7_firstEventFrom_2_body gX7_firstEventFrom_2_body
  simp only [bd_some, onR_some, bd2_lf7, lf7_bd, lf7_bd7, lf7_ite, lf7_some, lf7_none, ps_kd hw, jR2 hw, jc1 hw, jg3 hw, jl1 hw, js1 hw, eX7_revisionOf hw, hk2]
set_option maxRecDepth 100000 in
set_option maxHeartbeats 4000000 in
theorem eX7_firstEventFrom_2 {M : Nat} {h : Hp} (hw : SW M h) : ∀ (n : Nat) (x1 : Int32) (x2 : Int32)  (s : SS), fX7_firstEventFrom_2 n M x1 x2 (ps M h s) = lf7 M h (gX7_firstEventFrom_2 n x1 x2 s) := by
  intro n
  induction n with
  | zero => intros; rfl
  | succ n ih => exact eX7_firstEventFrom_2_body hw _ _ ih
set_option maxRecDepth 100000 in
set_option maxHeartbeats 4000000 in
theorem eX7_firstEventFrom {M : Nat} {h : Hp} (hw : SW M h) (x1 : Int32) (s : SS) : fX7_firstEventFrom M x1 (ps M h s) = lf7 M h (gX7_firstEventFrom x1 s) := by
  unfold fX7_firstEventFrom gX7_firstEventFrom
  simp only [bd_some, onR_some, bd2_lf7, lf7_bd, lf7_bd7, lf7_ite, lf7_some, lf7_none, ps_kd hw, eX7_firstEventFrom_2 hw]
set_option maxRecDepth 100000 in
set_option maxHeartbeats 4000000 in
theorem eX7_forgetBeyondLimit_2_body {M : Nat} {h : Hp} (hw : SW M h) (c2 : Nat → Int32 → Hp → Option (Unit × Hp)) (k2 : Int32 → SS → Option (Unit × SS)) (hk2 : ∀ (x1 : Int32) (s : SS), c2 M x1 (ps M h s) = lf7 M h (k2 x1 s)) (x1 : Int32) (s : SS) : fX7_forgetBeyondLimit_2_body c2 M x1 (ps M h s) = lf7 M h (gX7_forgetBeyondLimit_2_body k2 x1 s) := by
  unfold fX7_forgetBeyondLimit_2_body gX7_forgetBeyondLimit_2_body
  simp only [bd_some, onR_some, bd2_lf7, lf7_bd, lf7_bd7, lf7_ite, lf7_some, lf7_none, ps_kd hw, jR2 hw, jc1 hw, jg3 hw, jl1 hw, jp1 hw, js1 hw, eX7_revisionOf hw, eX7_forgetCompacted hw, hk2]
set_option maxRecDepth 100000 in
set_option maxHeartbeats 4000000 in
theorem eX7_forgetBeyondLimit_2 {M : Nat} {h : Hp} (hw : SW M h) : ∀ (n : Nat) (x1 : Int32)  (s : SS), fX7_forgetBeyondLimit_2 n M x1 (ps M h s) = lf7 M h (gX7_forgetBeyondLimit_2 n x1 s) := by
  intro n
  induction n with
  | zero => intros; rfl
  | succ n ih => exact eX7_forgetBeyondLimit_2_body hw _ _ ih
set_option maxRecDepth 100000 in
set_option maxHeartbeats 4000000 in
theorem eX7_forgetBeyondLimit {M : Nat} {h : Hp} (hw : SW M h) (s : SS) : fX7_forgetBeyondLimit M (ps M h s) = lf7 M h (gX7_forgetBeyondLimit  s) := by
  unfold fX7_forgetBeyondLimit gX7_forgetBeyondLimit
  simp only [bd_some, onR_some, bd2_lf7, lf7_bd, lf7_bd7, lf7_ite, lf7_some, lf7_none, ps_kd hw, eX7_forgetBeyondLimit_2 hw]
set_option maxRecDepth 100000 in
set_option maxHeartbeats 4000000 in
theorem eX9_isLease {M : Nat} {h : Hp} (hw : SW M h) (x0 : Int32) (s : SS) : fX9_isLease x0 (ps M h s) = lf7 M h (gX9_isLease x0 s) := by
  unfold fX9_isLease gX9_isLease
  simp only [bd_some, onR_some, bd2_lf7, lf7_bd, lf7_bd7, lf7_ite, lf7_some, lf7_none, ps_kd hw]
set_option maxRecDepth 100000 in
set_option maxHeartbeats 4000000 in
theorem eX7_hasLease {M : Nat} {h : Hp} (hw : SW M h) (x1 : Int32) (s : SS) : fX7_hasLease M x1 (ps M h s) = lf7 M h (gX7_hasLease x1 s) := by
  unfold fX7_hasLease gX7_hasLease
  simp only [bd_some, onR_some, bd2_lf7, lf7_bd, lf7_bd7, lf7_ite, lf7_some, lf7_none, ps_kd hw, jg12 hw, eX9_isLease hw, eX7_bitOfLease hw]
set_option maxRecDepth 100000 in
set_option maxHeartbeats 4000000 in
theorem eX7_grant {M : Nat} {h : Hp} (hw : SW M h) (x1 : Int32) (x2 : Int32) (s : SS) : fX7_grant M x1 x2 (ps M h s) = lf7 M h (gX7_grant x1 x2 s) := by
  unfold fX7_grant gX7_grant
  simp only [bd_some, onR_some, bd2_lf7, lf7_bd, lf7_bd7, lf7_ite, lf7_some, lf7_none, ps_kd hw, jR13 hw, jg12 hw, jg4 hw, jl8 hw, jp12 hw, js8 hw, eX9_isLease hw, eX7_hasLease hw, eX7_bitOfLease hw]
set_option maxRecDepth 100000 in
set_option maxHeartbeats 4000000 in
theorem eX9_isKey {M : Nat} {h : Hp} (hw : SW M h) (x0 : Int32) (s : SS) : fX9_isKey x0 (ps M h s) = lf7 M h (gX9_isKey x0 s) := by
  unfold fX9_isKey gX9_isKey
  simp only [bd_some, onR_some, bd2_lf7, lf7_bd, lf7_bd7, lf7_ite, lf7_some, lf7_none, ps_kd hw]
set_option maxRecDepth 100000 in
set_option maxHeartbeats 4000000 in
theorem eX7_keyField {M : Nat} {h : Hp} (hw : SW M h) (x1 : Int32) (x2 : Int32) (s : SS) : fX7_keyField M x1 x2 (ps M h s) = lf7 M h (gX7_keyField x1 x2 s) := by
  unfold fX7_keyField gX7_keyField
  simp only [bd_some, onR_some, bd2_lf7, lf7_bd, lf7_bd7, lf7_ite, lf7_some, lf7_none, ps_kd hw, jR5 hw, jR6 hw, jR7 hw, jR8 hw, jR9 hw, jl2 hw, jl3 hw, jl4 hw, jl5 hw, jl6 hw, js2 hw, js3 hw, js4 hw, js5 hw, js6 hw, eX9_isKey hw]
set_option maxRecDepth 100000 in
set_option maxHeartbeats 4000000 in
theorem eX7_latestEventOfKey_10_body {M : Nat} {h : Hp} (hw : SW M h) (c10 : Nat → Int32 → Int32 → Hp → Option (Int32 × Hp)) (k10 : Int32 → Int32 → SS → Option (Int32 × SS)) (hk10 : ∀ (x1 : Int32) (x3 : Int32) (s : SS), c10 M x1 x3 (ps M h s) = lf7 M h (k10 x1 x3 s)) (x1 : Int32) (x3 : Int32) (s : SS) : fX7_latestEventOfKey_10_body c10 M x1 x3 (ps M h s) = lf7 M h (gX7_latestEventOfKey_10_body k10 x1 x3 s) := by
  unfold fX7_latestEventOfKey_10_body gX7_latestEventOfKey_10_body
  simp only [bd_some, onR_some, bd2_lf7, lf7_bd, lf7_bd7, lf7_ite, lf7_some, lf7_none, ps_kd hw, jR2 hw, jc1 hw, jl1 hw, js1 hw, eX7_keyOf hw, hk10]
set_option maxRecDepth 100000 in
set_option maxHeartbeats 4000000 in
theorem eX7_latestEventOfKey_10 {M : Nat} {h : Hp} (hw : SW M h) : ∀ (n : Nat) (x1 : Int32) (x3 : Int32)  (s : SS), fX7_latestEventOfKey_10 n M x1 x3 (ps M h s) = lf7 M h (gX7_latestEventOfKey_10 n x1 x3 s) := by
  intro n
  induction n with
  | zero => intros; rfl
  | succ n ih => exact eX7_latestEventOfKey_10_body hw _ _ ih
set_option maxRecDepth 100000 in
set_option maxHeartbeats 4000000 in
theorem eX7_latestEventOfKey {M : Nat} {h : Hp} (hw : SW M h) (x1 : Int32) (x2 : Int32) (s : SS) : fX7_latestEventOfKey M x1 x2 (ps M h s) = lf7 M h (gX7_latestEventOfKey x1 x2 s) := by
  unfold fX7_latestEventOfKey gX7_latestEventOfKey
  simp only [bd_some, onR_some, bd2_lf7, lf7_bd, lf7_bd7, lf7_ite, lf7_some, lf7_none, ps_kd hw, eX7_firstEventFrom hw, eX7_latestEventOfKey_10 hw]
set_option maxRecDepth 100000 in
set_option maxHeartbeats 4000000 in
theorem eX7_put_33 {M : Nat} {h : Hp} (hw : SW M h) (x1 : Int32) (x2 : Int32) (x3 : Int32) (x4 : Int32) (s : SS) : fX7_put_33 M x1 x2 x3 x4 (ps M h s) = lf7 M h (gX7_put_33 x1 x2 x3 x4 s) := by
  unfold fX7_put_33 gX7_put_33
  simp only [bd_some, onR_some, bd2_lf7, lf7_bd, lf7_bd7, lf7_ite, lf7_some, lf7_none, ps_kd hw, jR5 hw, jR7 hw, jR8 hw, jR9 hw, jl2 hw, jl4 hw, jl5 hw, jl6 hw, js2 hw, js4 hw, js5 hw, js6 hw, eX7_addEvent hw, eX7_endRevision hw]
set_option maxRecDepth 100000 in
set_option maxHeartbeats 4000000 in
theorem eX7_put {M : Nat} {h : Hp} (hw : SW M h) (x1 : Int32) (x2 : Int32) (x3 : Int32) (s : SS) : fX7_put M x1 x2 x3 (ps M h s) = lf7 M h (gX7_put x1 x2 x3 s) := by
  unfold fX7_put gX7_put
  simp only [bd_some, onR_some, bd2_lf7, lf7_bd, lf7_bd7, lf7_ite, lf7_some, lf7_none, ps_kd hw, jR5 hw, jR6 hw, jg0 hw, jl2 hw, jl3 hw, js2 hw, js3 hw, eX9_isKey hw, eX7_put_33 hw]
set_option maxRecDepth 100000 in
set_option maxHeartbeats 4000000 in
theorem eX7_putWithLease_14 {M : Nat} {h : Hp} (hw : SW M h) (x1 : Int32) (x2 : Int32) (x3 : Int32) (s : SS) : fX7_putWithLease_14 M x1 x2 x3 (ps M h s) = lf7 M h (gX7_putWithLease_14 x1 x2 x3 s) := by
  unfold fX7_putWithLease_14 gX7_putWithLease_14
  simp only [bd_some, onR_some, bd2_lf7, lf7_bd, lf7_bd7, lf7_ite, lf7_some, lf7_none, ps_kd hw, jg0 hw, eX7_put hw]
set_option maxRecDepth 100000 in
set_option maxHeartbeats 4000000 in
theorem eX7_putWithLease {M : Nat} {h : Hp} (hw : SW M h) (x1 : Int32) (x2 : Int32) (x3 : Int32) (s : SS) : fX7_putWithLease M x1 x2 x3 (ps M h s) = lf7 M h (gX7_putWithLease x1 x2 x3 s) := by
  unfold fX7_putWithLease gX7_putWithLease
  simp only [bd_some, onR_some, bd2_lf7, lf7_bd, lf7_bd7, lf7_ite, lf7_some, lf7_none, ps_kd hw, eX7_putWithLease_14 hw, eX7_hasLease hw]
set_option maxRecDepth 100000 in
set_option maxHeartbeats 4000000 in
theorem eX7_remove {M : Nat} {h : Hp} (hw : SW M h) (x1 : Int32) (s : SS) : fX7_remove M x1 (ps M h s) = lf7 M h (gX7_remove x1 s) := by
  unfold fX7_remove gX7_remove
  simp only [bd_some, onR_some, bd2_lf7, lf7_bd, lf7_bd7, lf7_ite, lf7_some, lf7_none, ps_kd hw, jR5 hw, jR6 hw, jR7 hw, jR8 hw, jR9 hw, jg0 hw, jl2 hw, jl3 hw, jl4 hw, jl5 hw, jl6 hw, js2 hw, js3 hw, js4 hw, js5 hw, js6 hw, eX9_isKey hw, eX7_addEvent hw]
set_option maxRecDepth 100000 in
set_option maxHeartbeats 4000000 in
theorem eX7_removeRange_37 {M : Nat} {h : Hp} (hw : SW M h) (x3 : Int32) (s : SS) : fX7_removeRange_37 M x3 (ps M h s) = lf7 M h (gX7_removeRange_37 x3 s) := by
  unfold fX7_removeRange_37 gX7_removeRange_37
  simp only [bd_some, onR_some, bd2_lf7, lf7_bd, lf7_bd7, lf7_ite, lf7_some, lf7_none, ps_kd hw, eX7_endRevision hw]
set_option maxRecDepth 100000 in
set_option maxHeartbeats 4000000 in
theorem eX7_removeRange_9_body {M : Nat} {h : Hp} (hw : SW M h) (c9 : Nat → Int32 → Int32 → Int32 → Hp → Option (Int32 × Hp)) (k9 : Int32 → Int32 → Int32 → SS → Option (Int32 × SS)) (hk9 : ∀ (x2 : Int32) (x3 : Int32) (x4 : Int32) (s : SS), c9 M x2 x3 x4 (ps M h s) = lf7 M h (k9 x2 x3 x4 s)) (x2 : Int32) (x3 : Int32) (x4 : Int32) (s : SS) : fX7_removeRange_9_body c9 M x2 x3 x4 (ps M h s) = lf7 M h (gX7_removeRange_9_body k9 x2 x3 x4 s) := by
  unfold fX7_removeRange_9_body gX7_removeRange_9_body
  simp only [bd_some, onR_some, bd2_lf7, lf7_bd, lf7_bd7, lf7_ite, lf7_some, lf7_none, ps_kd hw, eX7_removeRange_37 hw, eX7_remove hw, hk9]
set_option maxRecDepth 100000 in
set_option maxHeartbeats 4000000 in
theorem eX7_removeRange_9 {M : Nat} {h : Hp} (hw : SW M h) : ∀ (n : Nat) (x2 : Int32) (x3 : Int32) (x4 : Int32)  (s : SS), fX7_removeRange_9 n M x2 x3 x4 (ps M h s) = lf7 M h (gX7_removeRange_9 n x2 x3 x4 s) := by
  intro n
  induction n with
  | zero => intros; rfl
  | succ n ih => exact eX7_removeRange_9_body hw _ _ ih
set_option maxRecDepth 100000 in
set_option maxHeartbeats 4000000 in
theorem eX7_removeRange {M : Nat} {h : Hp} (hw : SW M h) (x1 : Int32) (x2 : Int32) (s : SS) : fX7_removeRange M x1 x2 (ps M h s) = lf7 M h (gX7_removeRange x1 x2 s) := by
  unfold fX7_removeRange gX7_removeRange
  simp only [bd_some, onR_some, bd2_lf7, lf7_bd, lf7_bd7, lf7_ite, lf7_some, lf7_none, ps_kd hw, eX7_removeRange_9 hw]
set_option maxRecDepth 100000 in
set_option maxHeartbeats 4000000 in
theorem eX7_renew {M : Nat} {h : Hp} (hw : SW M h) (x1 : Int32) (x2 : Int32) (s : SS) : fX7_renew M x1 x2 (ps M h s) = lf7 M h (gX7_renew x1 x2 s) := by
  unfold fX7_renew gX7_renew
  simp only [bd_some, onR_some, bd2_lf7, lf7_bd, lf7_bd7, lf7_ite, lf7_some, lf7_none, ps_kd hw, jR13 hw, jg4 hw, jl8 hw, js8 hw, eX7_hasLease hw]
set_option maxRecDepth 100000 in
set_option maxHeartbeats 4000000 in
theorem eX7_revoke_53 {M : Nat} {h : Hp} (hw : SW M h) (k29 : Int32 → Int32 → Int32 → SS → Option (Int32 × SS)) (c29 : Nat → Int32 → Int32 → Int32 → Hp → Option (Int32 × Hp)) (hk29 : ∀ (x1 : Int32) (x2 : Int32) (x3 : Int32) (s : SS), c29 M x1 x2 x3 (ps M h s) = lf7 M h (k29 x1 x2 x3 s)) (x1 : Int32) (x2 : Int32) (x3 : Int32) (s : SS) : fX7_revoke_53 c29 M x1 x2 x3 (ps M h s) = lf7 M h (gX7_revoke_53 k29 x1 x2 x3 s) := by
  unfold fX7_revoke_53 gX7_revoke_53
  simp only [bd_some, onR_some, bd2_lf7, lf7_bd, lf7_bd7, lf7_ite, lf7_some, lf7_none, ps_kd hw, hk29]
set_option maxRecDepth 100000 in
set_option maxHeartbeats 4000000 in
theorem eX7_revoke_29_body {M : Nat} {h : Hp} (hw : SW M h) (c29 : Nat → Int32 → Int32 → Int32 → Hp → Option (Int32 × Hp)) (k29 : Int32 → Int32 → Int32 → SS → Option (Int32 × SS)) (hk29 : ∀ (x1 : Int32) (x2 : Int32) (x3 : Int32) (s : SS), c29 M x1 x2 x3 (ps M h s) = lf7 M h (k29 x1 x2 x3 s)) (x1 : Int32) (x2 : Int32) (x3 : Int32) (s : SS) : fX7_revoke_29_body c29 M x1 x2 x3 (ps M h s) = lf7 M h (gX7_revoke_29_body k29 x1 x2 x3 s) := by
  unfold fX7_revoke_29_body gX7_revoke_29_body
  simp only [bd_some, onR_some, bd2_lf7, lf7_bd, lf7_bd7, lf7_ite, lf7_some, lf7_none, ps_kd hw, jR9 hw, jl6 hw, js6 hw, eX7_revoke_53 hw k29 c29 hk29, eX7_remove hw, eX7_endRevision hw, hk29]
set_option maxRecDepth 100000 in
set_option maxHeartbeats 4000000 in
theorem eX7_revoke_29 {M : Nat} {h : Hp} (hw : SW M h) : ∀ (n : Nat) (x1 : Int32) (x2 : Int32) (x3 : Int32)  (s : SS), fX7_revoke_29 n M x1 x2 x3 (ps M h s) = lf7 M h (gX7_revoke_29 n x1 x2 x3 s) := by
  intro n
  induction n with
  | zero => intros; rfl
  | succ n ih => exact eX7_revoke_29_body hw _ _ ih
set_option maxRecDepth 100000 in
set_option maxHeartbeats 4000000 in
theorem eX7_revoke {M : Nat} {h : Hp} (hw : SW M h) (x1 : Int32) (s : SS) : fX7_revoke M x1 (ps M h s) = lf7 M h (gX7_revoke x1 s) := by
  unfold fX7_revoke gX7_revoke
  simp only [bd_some, onR_some, bd2_lf7, lf7_bd, lf7_bd7, lf7_ite, lf7_some, lf7_none, ps_kd hw, jg12 hw, jp12 hw, eX7_hasLease hw, eX7_bitOfLease hw, eX7_revoke_29 hw]
set_option maxRecDepth 100000 in
set_option maxHeartbeats 4000000 in
theorem eX7_tick_45 {M : Nat} {h : Hp} (hw : SW M h) (k12 : Int32 → SS → Option (Int32 × SS)) (c12 : Nat → Int32 → Hp → Option (Int32 × Hp)) (hk12 : ∀ (x1 : Int32) (s : SS), c12 M x1 (ps M h s) = lf7 M h (k12 x1 s)) (x1 : Int32) (s : SS) : fX7_tick_45 c12 M x1 (ps M h s) = lf7 M h (gX7_tick_45 k12 x1 s) := by
  unfold fX7_tick_45 gX7_tick_45
  simp only [bd_some, onR_some, bd2_lf7, lf7_bd, lf7_bd7, lf7_ite, lf7_some, lf7_none, ps_kd hw, hk12]
set_option maxRecDepth 100000 in
set_option maxHeartbeats 4000000 in
theorem eX7_tick_12_body {M : Nat} {h : Hp} (hw : SW M h) (c12 : Nat → Int32 → Hp → Option (Int32 × Hp)) (k12 : Int32 → SS → Option (Int32 × SS)) (hk12 : ∀ (x1 : Int32) (s : SS), c12 M x1 (ps M h s) = lf7 M h (k12 x1 s)) (x1 : Int32) (s : SS) : fX7_tick_12_body c12 M x1 (ps M h s) = lf7 M h (gX7_tick_12_body k12 x1 s) := by
  unfold fX7_tick_12_body gX7_tick_12_body
  simp only [bd_some, onR_some, bd2_lf7, lf7_bd, lf7_bd7, lf7_ite, lf7_some, lf7_none, ps_kd hw, jR13 hw, jg4 hw, jl8 hw, js8 hw, eX7_hasLease hw, eX7_tick_45 hw k12 c12 hk12, eX7_revoke hw, hk12]
set_option maxRecDepth 100000 in
set_option maxHeartbeats 4000000 in
theorem eX7_tick_12 {M : Nat} {h : Hp} (hw : SW M h) : ∀ (n : Nat) (x1 : Int32)  (s : SS), fX7_tick_12 n M x1 (ps M h s) = lf7 M h (gX7_tick_12 n x1 s) := by
  intro n
  induction n with
  | zero => intros; rfl
  | succ n ih => exact eX7_tick_12_body hw _ _ ih
set_option maxRecDepth 100000 in
set_option maxHeartbeats 4000000 in
theorem eX7_tick {M : Nat} {h : Hp} (hw : SW M h) (s : SS) : fX7_tick M (ps M h s) = lf7 M h (gX7_tick  s) := by
  unfold fX7_tick gX7_tick
  simp only [bd_some, onR_some, bd2_lf7, lf7_bd, lf7_bd7, lf7_ite, lf7_some, lf7_none, ps_kd hw, jg4 hw, jp4 hw, eX7_tick_12 hw]
set_option maxRecDepth 100000 in
set_option maxHeartbeats 4000000 in
theorem eX7_valueThen_22 {M : Nat} {h : Hp} (hw : SW M h) (x1 : Int32) (s : SS) : fX7_valueThen_22 M x1 (ps M h s) = lf7 M h (gX7_valueThen_22 x1 s) := by
  unfold fX7_valueThen_22 gX7_valueThen_22
  simp only [bd_some, onR_some, bd2_lf7, lf7_bd, lf7_bd7, lf7_ite, lf7_some, lf7_none, ps_kd hw, jR11 hw, jl7 hw, js7 hw, eX9_isKey hw]
set_option maxRecDepth 100000 in
set_option maxHeartbeats 4000000 in
theorem eX7_valueThen {M : Nat} {h : Hp} (hw : SW M h) (x1 : Int32) (x2 : Int32) (s : SS) : fX7_valueThen M x1 x2 (ps M h s) = lf7 M h (gX7_valueThen x1 x2 s) := by
  unfold fX7_valueThen gX7_valueThen
  simp only [bd_some, onR_some, bd2_lf7, lf7_bd, lf7_bd7, lf7_ite, lf7_some, lf7_none, ps_kd hw, jR2 hw, jc1 hw, jg3 hw, jl1 hw, js1 hw, eX7_valueThen_22 hw, eX7_valueOf hw]
set_option maxRecDepth 100000 in
set_option maxHeartbeats 4000000 in
theorem eX7_wasThere_22 {M : Nat} {h : Hp} (hw : SW M h) (x1 : Int32) (s : SS) : fX7_wasThere_22 M x1 (ps M h s) = lf7 M h (gX7_wasThere_22 x1 s) := by
  unfold fX7_wasThere_22 gX7_wasThere_22
  simp only [bd_some, onR_some, bd2_lf7, lf7_bd, lf7_bd7, lf7_ite, lf7_some, lf7_none, ps_kd hw, jg10 hw]
set_option maxRecDepth 100000 in
set_option maxHeartbeats 4000000 in
theorem eX7_wasThere {M : Nat} {h : Hp} (hw : SW M h) (x1 : Int32) (x2 : Int32) (s : SS) : fX7_wasThere M x1 x2 (ps M h s) = lf7 M h (gX7_wasThere x1 x2 s) := by
  unfold fX7_wasThere gX7_wasThere
  simp only [bd_some, onR_some, bd2_lf7, lf7_bd, lf7_bd7, lf7_ite, lf7_some, lf7_none, ps_kd hw, jR2 hw, jc1 hw, jg3 hw, jl1 hw, js1 hw, eX7_wasThere_22 hw, eX7_isPut hw]
