/-! ===== what doesn't touch the index up to which a node applied ===== -/
def P10 (h h' : Hp) : Prop := hZ h ≤ hZ h' ∧ ∀ x, x < hZ h → hI h' (gq 5 10) x = hI h (gq 5 10) x
theorem p10_refl (h : Hp) : P10 h h := ⟨Nat.le_refl _, fun _ _ => rfl⟩
theorem p10_trans {h h' h'' : Hp} (p : P10 h h') (q : P10 h' h'') : P10 h h'' := ⟨Nat.le_trans p.1 q.1, fun x hx => (q.2 x (Nat.lt_of_lt_of_le hx p.1)).trans (p.2 x hx)⟩
def PF {α : Type} (h : Hp) (o : Option (α × Hp)) : Prop := ∀ v h', o = some (v, h') → P10 h h'
section
variable {α β : Type} {h h1 : Hp}
theorem pf_none : PF h (none : Option (α × Hp)) := fun _ _ e => by cases e
theorem pf_some {v : α} (p : P10 h h1) : PF h (some (v, h1)) := fun _ _ e => by cases e; exact p
theorem pf_bd {o : Option β} {k : β → Option (α × Hp)} (f : ∀ x, PF h (k x)) : PF h (bd o k) := by
  cases o with
  | none => exact pf_none
  | some v => exact f v
theorem pf_ite {c : Prop} [Decidable c] {a b : Option (α × Hp)} (x : PF h a) (y : PF h b) : PF h (if c then a else b) := by
  split
  · exact x
  · exact y
theorem pf_onR {o : Option Nat} {n : Option (α × Hp)} {k : Nat → Option (α × Hp)} (x : PF h n) (y : ∀ a, PF h (k a)) : PF h (onR o n k) := by
  cases o with
  | none => exact x
  | some a => exact y a
theorem pf_bd2 {o : Option (β × Hp)} {k : β → Hp → Option (α × Hp)} (f : PF h o) (g : ∀ v h2, P10 h h2 → PF h (k v h2)) : PF h (bd2 o k) := by
  cases o with
  | none => exact pf_none
  | some v => exact g v.1 v.2 (f v.1 v.2 rfl)
theorem pf_kp {o : Option Hp} {K : Hp → Option (α × Hp)} (p : P10 h h1) (e : ∀ h2, o = some h2 → hZ h1 ≤ hZ h2 ∧ ∀ x, x < hZ h1 → hI h2 (gq 5 10) x = hI h1 (gq 5 10) x) (f : ∀ h2, P10 h h2 → PF h (K h2)) : PF h (bd o K) := by
  cases o with
  | none => exact pf_none
  | some v => exact f v (p10_trans p (e v rfl))
theorem pf_pI {c k a : Nat} {v : Int32} {K : Hp → Option (α × Hp)} (p : P10 h h1) (hf : gq 5 10 ≠ gq c k) (f : ∀ h2, P10 h h2 → PF h (K h2)) : PF h (bd (pI h1 c k a v) K) := pf_kp p (fun h2 e => by
  unfold pI at e
  split at e
  · cases e; exact ⟨Nat.le_refl _, fun x _ => if_neg (fun q => hf q.1)⟩
  · cases e) f
theorem pf_pR {c k a : Nat} {v : Option Nat} {K : Hp → Option (α × Hp)} (p : P10 h h1) (f : ∀ h2, P10 h h2 → PF h (K h2)) : PF h (bd (pR h1 c k a v) K) := pf_kp p (fun h2 e => by
  unfold pR at e
  split at e
  · cases e; exact ⟨Nat.le_refl _, fun x _ => rfl⟩
  · cases e) f
theorem pf_stR {t ei a v : Nat} {i : Int32} {K : Hp → Option (α × Hp)} (p : P10 h h1) (f : ∀ h2, P10 h h2 → PF h (K h2)) : PF h (bd (stR h1 t ei a i v) K) := pf_kp p (fun h2 e => by
  unfold stR at e
  split at e
  · cases e; exact ⟨Nat.le_refl _, fun x _ => rfl⟩
  · cases e) f
theorem pf_stN {t a : Nat} {i : Int32} {K : Hp → Option (α × Hp)} (p : P10 h h1) (f : ∀ h2, P10 h h2 → PF h (K h2)) : PF h (bd (stN h1 t a i) K) := pf_kp p (fun h2 e => by
  unfold stN at e
  split at e
  · cases e; exact ⟨Nat.le_refl _, fun x _ => rfl⟩
  · cases e) f
theorem pf_mkA {t M : Nat} {n : Int32} {K : Hp → Option (α × Hp)} (p : P10 h h1) (f : ∀ h2, P10 h h2 → PF h (K h2)) : PF h (bd (mkA h1 t n M) K) := pf_kp p (fun h2 e => by
  unfold mkA at e
  split at e
  · cases e; exact ⟨Nat.le_succ _, fun x _ => rfl⟩
  · cases e) f
theorem pf_nwO {c : Nat} {K : Hp → Option (α × Hp)} (p : P10 h h1) (f : ∀ h2, P10 h h2 → PF h (K h2)) : PF h (bd (nwO h1 c) K) := pf_kp p (fun h2 e => by
  unfold nwO at e
  cases e; exact ⟨Nat.le_succ _, fun x hx => if_neg (Nat.ne_of_lt hx)⟩) f
end
section
variable {h h0 : Hp} {x0 x1 : Nat}
theorem pf_init4 {y1 y2 y3 y4 y5 y6 : Int32} (p : P10 h0 h) : PF h0 (fX4_init x0 y1 y2 y3 y4 y5 y6 h) := by
  unfold fX4_init
  repeat' first | exact pf_none | exact pf_some (by assumption) | refine pf_pI (by assumption) (by decide) (fun _ _ => ?_)
theorem pf_send48 (p : P10 h0 h) : PF h0 (fX3_send_48 x0 x1 h) := by
  unfold fX3_send_48
  repeat' first | exact pf_none | exact pf_some (by assumption) | refine pf_pI (by assumption) (by decide) (fun _ _ => ?_) | refine pf_stR (by assumption) (fun _ _ => ?_) | refine pf_bd (fun _ => ?_) | refine pf_ite ?_ ?_ | refine pf_onR ?_ (fun _ => ?_)
theorem pf_send30 (p : P10 h0 h) : PF h0 (fX3_send_30 x0 x1 h) := by
  unfold fX3_send_30
  repeat' first | exact pf_none | exact pf_some (by assumption) | exact pf_send48 (by assumption) | refine pf_pI (by assumption) (by decide) (fun _ _ => ?_) | refine pf_bd (fun _ => ?_) | refine pf_ite ?_ ?_ | refine pf_onR ?_ (fun _ => ?_)
theorem pf_send (p : P10 h0 h) : PF h0 (fX3_send x0 x1 h) := by
  unfold fX3_send
  repeat' first | exact pf_none | exact pf_some (by assumption) | exact pf_send30 (by assumption) | refine pf_bd (fun _ => ?_) | refine pf_ite ?_ ?_ | refine pf_onR ?_ (fun _ => ?_)
theorem pf_entryAt {y : Int32} (p : P10 h0 h) : PF h0 (fX1_entryAt x0 y h) := by
  unfold fX1_entryAt
  repeat' first | exact pf_none | exact pf_some (by assumption) | refine pf_bd (fun _ => ?_) | refine pf_ite ?_ ?_ | refine pf_onR ?_ (fun _ => ?_)
theorem pf_termAt {y : Int32} (p : P10 h0 h) : PF h0 (fX1_termAt x0 y h) := by
  unfold fX1_termAt
  repeat' first | exact pf_none | exact pf_some (by assumption) | refine pf_bd2 (pf_entryAt (by assumption)) (fun _ _ _ => ?_) | refine pf_bd (fun _ => ?_) | refine pf_ite ?_ ?_ | refine pf_onR ?_ (fun _ => ?_)
theorem pf_eb23 : ∀ (f : Nat) (h : Hp) {x3 : Nat} {y1 y2 y4 : Int32}, P10 h0 h → PF h0 (fX1_entriesBehind_23 f x0 y1 y2 x3 y4 h)
  | 0, _, _, _, _, _, _ => pf_none
  | f + 1, h, x3, y1, y2, y4, p => by
    show PF h0 (fX1_entriesBehind_23_body (fX1_entriesBehind_23 f) x0 y1 y2 x3 y4 h)
    unfold fX1_entriesBehind_23_body
    repeat' first | exact pf_none | exact pf_some (by assumption) | exact pf_eb23 f _ (by assumption) | refine pf_bd2 (pf_entryAt (by assumption)) (fun _ _ _ => ?_) | refine pf_stR (by assumption) (fun _ _ => ?_) | refine pf_stN (by assumption) (fun _ _ => ?_) | refine pf_bd (fun _ => ?_) | refine pf_ite ?_ ?_ | refine pf_onR ?_ (fun _ => ?_)
theorem pf_eb {y : Int32} (p : P10 h0 h) : PF h0 (fX1_entriesBehind x0 y h) := by
  unfold fX1_entriesBehind
  repeat' first | exact pf_none | exact pf_some (by assumption) | exact pf_eb23 _ _ (by assumption) | refine pf_mkA (by assumption) (fun _ _ => ?_) | refine pf_bd (fun _ => ?_) | refine pf_ite ?_ ?_ | refine pf_onR ?_ (fun _ => ?_)
theorem pf_sendTo {y : Int32} (p : P10 h0 h) : PF h0 (fX5_sendTo x0 y h) := by
  unfold fX5_sendTo
  repeat' first | exact pf_none | exact pf_some (by assumption) | refine pf_bd2 (pf_termAt (by assumption)) (fun _ _ _ => ?_) | refine pf_bd2 (pf_init4 (by assumption)) (fun _ _ _ => ?_) | refine pf_bd2 (pf_send (by assumption)) (fun _ _ _ => ?_) | refine pf_bd2 (pf_eb (by assumption)) (fun _ _ _ => ?_) | refine pf_pI (by assumption) (by decide) (fun _ _ => ?_) | refine pf_pR (by assumption) (fun _ _ => ?_) | refine pf_nwO (by assumption) (fun _ _ => ?_) | refine pf_bd (fun _ => ?_) | refine pf_ite ?_ ?_ | refine pf_onR ?_ (fun _ => ?_)
theorem pf_all2 : ∀ (f : Nat) (h : Hp) {y : Int32}, P10 h0 h → PF h0 (fX5_sendToAll_2 f x0 y h)
  | 0, _, _, _ => pf_none
  | f + 1, h, y, p => by
    show PF h0 (fX5_sendToAll_2_body (fX5_sendToAll_2 f) x0 y h)
    unfold fX5_sendToAll_2_body
    repeat' first | exact pf_none | exact pf_some (by assumption) | exact pf_all2 f _ (by assumption) | refine pf_bd2 (pf_sendTo (by assumption)) (fun _ _ _ => ?_) | refine pf_bd (fun _ => ?_) | refine pf_ite ?_ ?_ | refine pf_onR ?_ (fun _ => ?_)
theorem pf_all (p : P10 h0 h) : PF h0 (fX5_sendToAll x0 h) := by
  unfold fX5_sendToAll
  exact pf_all2 _ _ p
theorem pf_se60 : ∀ (f : Nat) (h : Hp) {y1 y2 : Int32}, P10 h0 h → PF h0 (fX5_standForElection_60 f x0 y1 y2 h)
  | 0, _, _, _, _ => pf_none
  | f + 1, h, y1, y2, p => by
    show PF h0 (fX5_standForElection_60_body (fX5_standForElection_60 f) x0 y1 y2 h)
    unfold fX5_standForElection_60_body
    repeat' first | exact pf_none | exact pf_some (by assumption) | exact pf_se60 f _ (by assumption) | refine pf_bd2 (pf_init4 (by assumption)) (fun _ _ _ => ?_) | refine pf_bd2 (pf_send (by assumption)) (fun _ _ _ => ?_) | refine pf_nwO (by assumption) (fun _ _ => ?_) | refine pf_bd (fun _ => ?_) | refine pf_ite ?_ ?_ | refine pf_onR ?_ (fun _ => ?_)
theorem pf_reply {y1 y2 : Int32} (p : P10 h0 h) : PF h0 (fX5_reply x0 x1 y1 y2 h) := by
  unfold fX5_reply
  repeat' first | exact pf_none | exact pf_some (by assumption) | refine pf_bd2 (pf_init4 (by assumption)) (fun _ _ _ => ?_) | refine pf_bd2 (pf_send (by assumption)) (fun _ _ _ => ?_) | refine pf_nwO (by assumption) (fun _ _ => ?_) | refine pf_bd (fun _ => ?_) | refine pf_ite ?_ ?_ | refine pf_onR ?_ (fun _ => ?_)
theorem pf_out (p : P10 h0 h) : PF h0 (fX5_answerOutdated x0 x1 h) := by
  unfold fX5_answerOutdated fX5_answerOutdated_33
  repeat' first | exact pf_none | exact pf_some (by assumption) | refine pf_bd2 (pf_reply (by assumption)) (fun _ _ _ => ?_) | refine pf_bd (fun _ => ?_) | refine pf_ite ?_ ?_ | refine pf_onR ?_ (fun _ => ?_)
end
