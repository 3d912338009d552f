/-! ===== Raft by itself: logs, terms, votes and what was accepted, as functions; no heap, no code ===== -/
section
theorem up1_eq {α : Type} (f : Nat → α) (x : Nat) (v : α) : up1 f x v x = v := if_pos rfl
theorem up1_ne {α : Type} (f : Nat → α) {x a : Nat} (v : α) (h : a ≠ x) : up1 f x v a = f a := if_neg h
theorem up2_eq {α : Type} (f : Nat → Nat → α) (x y : Nat) (v : α) : up2 f x y v x y = v := if_pos ⟨rfl, rfl⟩
theorem up2_ne {α : Type} (f : Nat → Nat → α) {x y a b : Nat} (v : α) (h : ¬ (a = x ∧ b = y)) : up2 f x y v a b = f a b := if_neg h
theorem up2_n1 {α : Type} (f : Nat → Nat → α) {x y a : Nat} (b : Nat) (v : α) (h : a ≠ x) : up2 f x y v a b = f a b := if_neg (fun q => h q.1)
theorem up2_n2 {α : Type} (f : Nat → Nat → α) {x y b : Nat} (a : Nat) (v : α) (h : b ≠ y) : up2 f x y v a b = f a b := if_neg (fun q => h q.2)
/-- three of the five -/
def M3 (P : Nat → Prop) : Prop := ∃ a b c, a < 5 ∧ b < 5 ∧ c < 5 ∧ a ≠ b ∧ a ≠ c ∧ b ≠ c ∧ P a ∧ P b ∧ P c
theorem m3_mono {P Q : Nat → Prop} (h : M3 P) (f : ∀ x, x < 5 → P x → Q x) : M3 Q := by
  obtain ⟨a, b, c, ha, hb, hc, h1, h2, h3, pa, pb, pc⟩ := h
  exact ⟨a, b, c, ha, hb, hc, h1, h2, h3, f a ha pa, f b hb pb, f c hc pc⟩
theorem m3_meet {P Q : Nat → Prop} (h : M3 P) (k : M3 Q) : ∃ x, x < 5 ∧ P x ∧ Q x := by
  obtain ⟨a, b, c, ha, hb, hc, h1, h2, h3, pa, pb, pc⟩ := h
  obtain ⟨d, e, f, hd, he, hf, h4, h5, h6, qd, qe, qf⟩ := k
  by_cases e1 : a = d
  · subst e1; exact ⟨a, ha, pa, qd⟩
  by_cases e2 : a = e
  · subst e2; exact ⟨a, ha, pa, qe⟩
  by_cases e3 : a = f
  · subst e3; exact ⟨a, ha, pa, qf⟩
  by_cases e4 : b = d
  · subst e4; exact ⟨b, hb, pb, qd⟩
  by_cases e5 : b = e
  · subst e5; exact ⟨b, hb, pb, qe⟩
  by_cases e6 : b = f
  · subst e6; exact ⟨b, hb, pb, qf⟩
  by_cases e7 : c = d
  · subst e7; exact ⟨c, hc, pc, qd⟩
  by_cases e8 : c = e
  · subst e8; exact ⟨c, hc, pc, qe⟩
  by_cases e9 : c = f
  · subst e9; exact ⟨c, hc, pc, qf⟩
  exfalso
  have A : a = 0 ∨ a = 1 ∨ a = 2 ∨ a = 3 ∨ a = 4 := by omega
  have B : b = 0 ∨ b = 1 ∨ b = 2 ∨ b = 3 ∨ b = 4 := by omega
  have C : c = 0 ∨ c = 1 ∨ c = 2 ∨ c = 3 ∨ c = 4 := by omega
  rcases A with A | A | A | A | A <;> rcases B with B | B | B | B | B <;> first | omega | (rcases C with C | C | C | C | C <;> omega)
/-- two logs agree up to i -/
def Ag {E : Type} (x y : Nat → E) (i : Nat) : Prop := ∀ j, j ≤ i → x j = y j
theorem ag_refl {E : Type} (x : Nat → E) (i : Nat) : Ag x x i := fun _ _ => rfl
theorem ag_symm {E : Type} {x y : Nat → E} {i : Nat} (h : Ag x y i) : Ag y x i := fun j q => (h j q).symm
theorem ag_trans {E : Type} {x y z : Nat → E} {i : Nat} (h : Ag x y i) (k : Ag y z i) : Ag x z i := fun j q => (h j q).trans (k j q)
theorem ag_le {E : Type} {x y : Nat → E} {i j : Nat} (h : Ag x y i) (q : j ≤ i) : Ag x y j := fun a r => h a (Nat.le_trans r q)
variable {E : Type} (te : E → Nat)
/-- nothing more can be chosen at (t, i): three have left term t without it -/
def NC (tm : Nat → Nat) (al : Nat → Nat → Nat) (t i : Nat) : Prop := M3 (fun w => t < tm w ∧ al w t < i)
def LMx (ld : Nat → Nat) (ll : Nat → Nat → E) (L : Nat → Nat) (x : Nat → E) (i B : Nat) : Prop := te (x i) ≤ B ∧ ld (te (x i)) ≠ 0 ∧ i ≤ L (te (x i)) ∧ Ag x (ll (te (x i))) i
def CMT (ll : Nat → Nat → E) (L : Nat → Nat) (al : Nat → Nat → Nat) (t i : Nat) : Prop := 1 ≤ i ∧ i ≤ L t ∧ te (ll t i) = t ∧ M3 (fun w => i ≤ al w t)
def CPt (ll : Nat → Nat → E) (L : Nat → Nat) (al : Nat → Nat → Nat) (x : Nat → E) (T k : Nat) : Prop := k = 0 ∨ ∃ t i, t ≤ T ∧ CMT te ll L al t i ∧ k ≤ i ∧ Ag x (ll t) k
/-- what Raft keeps.  Nodes: tm TERM, rl ROLE, vs VOTES, ls LAST, lg LOG, cm COMMIT, bs BASE, mt MATCH.
    Told by nobody: gv v T whom v voted for in T (one more, 0 none), cl c T and cn c T the candidate's log then, ld T the leader of T (one more), ll T and L T its log, al v T how far v accepted ll T -/
def RI (e0 : E) (tm rl : Nat → Nat) (vs : Nat → Nat → Prop) (ls : Nat → Nat) (lg : Nat → Nat → E) (cm bs : Nat → Nat) (mt : Nat → Nat → Nat) (gv : Nat → Nat → Nat) (cl : Nat → Nat → Nat → E) (cn : Nat → Nat → Nat) (ld : Nat → Nat) (ll : Nat → Nat → E) (L : Nat → Nat) (al : Nat → Nat → Nat) : Prop :=
  (te e0 = 0 ∧ (∀ v, gv v 0 = 0) ∧ ∀ v T, tm v < T → gv v T = 0 ∧ al v T = 0) ∧
  ((∀ v, lg v 0 = e0) ∧ (∀ T, ll T 0 = e0) ∧ (∀ c T, gv c T = c + 1 → cl c T 0 = e0) ∧ ∀ w T c, gv w T = c + 1 → gv c T = c + 1) ∧
  (ld 0 = 0 ∧ ∀ T, (ld T = 0 → L T = 0) ∧ ∀ c, ld T = c + 1 → c < 5 ∧ T ≤ tm c ∧ M3 (fun w => gv w T = c + 1) ∧ al c T = L T ∧ gv c T = c + 1) ∧
  (∀ v i, 1 ≤ i → i ≤ ls v → LMx te ld ll L (lg v) i (tm v)) ∧
  (∀ T i, 1 ≤ i → i ≤ L T → LMx te ld ll L (ll T) i T) ∧
  (∀ c T i, gv c T = c + 1 → 1 ≤ i → i ≤ cn c T → te (cl c T i) < T ∧ LMx te ld ll L (cl c T) i T) ∧
  (∀ v, rl v = 2 → ld (tm v) = v + 1 ∧ ls v = L (tm v) ∧ Ag (lg v) (ll (tm v)) (ls v) ∧ ∀ w, w < 5 → mt v w ≤ al w (tm v)) ∧
  (∀ v, rl v = 1 → gv v (tm v) = v + 1 ∧ ls v = cn v (tm v) ∧ Ag (lg v) (cl v (tm v)) (ls v) ∧ ld (tm v) ≠ v + 1 ∧ ∀ w, w < 5 → vs v w → gv w (tm v) = v + 1) ∧
  (∀ v t, al v t ≤ L t) ∧
  (∀ v, al v (tm v) ≤ ls v ∧ Ag (lg v) (ll (tm v)) (al v (tm v))) ∧
  (∀ v t i, t < tm v → 1 ≤ i → i ≤ al v t → te (ll t i) = t → (i ≤ ls v ∧ Ag (lg v) (ll t) i) ∨ NC tm al t i) ∧
  (∀ v T c t i, gv v T = c + 1 → t < T → 1 ≤ i → i ≤ al v t → te (ll t i) = t → (i ≤ cn c T ∧ Ag (cl c T) (ll t) i) ∨ NC tm al t i) ∧
  (∀ T t i, ld T ≠ 0 → t < T → 1 ≤ i → i ≤ L t → te (ll t i) = t → (i ≤ L T ∧ Ag (ll T) (ll t) i) ∨ NC tm al t i) ∧
  (∀ v, cm v ≤ ls v ∧ bs v ≤ cm v ∧ CPt te ll L al (lg v) (tm v) (cm v))
/-- the ghosts grow -/
def GX (gv : Nat → Nat → Nat) (cl : Nat → Nat → Nat → E) (cn : Nat → Nat → Nat) (ld : Nat → Nat) (ll : Nat → Nat → E) (L : Nat → Nat) (al : Nat → Nat → Nat) (gv' : Nat → Nat → Nat) (cl' : Nat → Nat → Nat → E) (cn' : Nat → Nat → Nat) (ld' : Nat → Nat) (ll' : Nat → Nat → E) (L' : Nat → Nat) (al' : Nat → Nat → Nat) : Prop :=
  (∀ t, L t ≤ L' t) ∧ (∀ t i, i ≤ L t → ll' t i = ll t i) ∧ (∀ w t, al w t ≤ al' w t) ∧ (∀ t, ld t ≠ 0 → ld' t = ld t) ∧ (∀ w t, gv w t ≠ 0 → gv' w t = gv w t) ∧ (∀ c t, gv c t = c + 1 → cl' c t = cl c t ∧ cn' c t = cn c t)
theorem gx_refl (gv : Nat → Nat → Nat) (cl : Nat → Nat → Nat → E) (cn : Nat → Nat → Nat) (ld : Nat → Nat) (ll : Nat → Nat → E) (L : Nat → Nat) (al : Nat → Nat → Nat) : GX gv cl cn ld ll L al gv cl cn ld ll L al := ⟨fun _ => Nat.le_refl _, fun _ _ _ => rfl, fun _ _ => Nat.le_refl _, fun _ _ => rfl, fun _ _ _ => rfl, fun _ _ _ => ⟨rfl, rfl⟩⟩
theorem gx_trans {gv gv' gv'' : Nat → Nat → Nat} {cl cl' cl'' : Nat → Nat → Nat → E} {cn cn' cn'' : Nat → Nat → Nat} {ld ld' ld'' : Nat → Nat} {ll ll' ll'' : Nat → Nat → E} {L L' L'' : Nat → Nat} {al al' al'' : Nat → Nat → Nat} (h : GX gv cl cn ld ll L al gv' cl' cn' ld' ll' L' al') (k : GX gv' cl' cn' ld' ll' L' al' gv'' cl'' cn'' ld'' ll'' L'' al'') : GX gv cl cn ld ll L al gv'' cl'' cn'' ld'' ll'' L'' al'' := by
  obtain ⟨h1, h2, h3, h4, h5, h6⟩ := h
  obtain ⟨k1, k2, k3, k4, k5, k6⟩ := k
  refine ⟨fun t => Nat.le_trans (h1 t) (k1 t), fun t i q => (k2 t i (Nat.le_trans q (h1 t))).trans (h2 t i q), fun w t => Nat.le_trans (h3 w t) (k3 w t), fun t q => (k4 t (by rw [h4 t q]; exact q)).trans (h4 t q), fun w t q => (k5 w t (by rw [h5 w t q]; exact q)).trans (h5 w t q), fun c t q => ?_⟩
  have e : gv' c t = c + 1 := (h5 c t (by omega)).trans q
  exact ⟨(k6 c t e).1.trans (h6 c t q).1, (k6 c t e).2.trans (h6 c t q).2⟩
theorem cmt_mono {ll ll' : Nat → Nat → E} {L L' : Nat → Nat} {al al' : Nat → Nat → Nat} (h1 : ∀ t, L t ≤ L' t) (h2 : ∀ t i, i ≤ L t → ll' t i = ll t i) (h3 : ∀ w t, al w t ≤ al' w t) {t i : Nat} (h : CMT te ll L al t i) : CMT te ll' L' al' t i := by
  obtain ⟨a, b, c, d⟩ := h
  exact ⟨a, Nat.le_trans b (h1 t), by rw [h2 t i b]; exact c, m3_mono d (fun w _ q => Nat.le_trans q (h3 w t))⟩
theorem cpt_mono {ll ll' : Nat → Nat → E} {L L' : Nat → Nat} {al al' : Nat → Nat → Nat} (h1 : ∀ t, L t ≤ L' t) (h2 : ∀ t i, i ≤ L t → ll' t i = ll t i) (h3 : ∀ w t, al w t ≤ al' w t) {x y : Nat → E} {T T' k : Nat} (hT : T ≤ T') (hx : Ag y x k) (h : CPt te ll L al x T k) : CPt te ll' L' al' y T' k := by
  rcases h with h | ⟨t, i, a, b, c, d⟩
  · exact Or.inl h
  · refine Or.inr ⟨t, i, Nat.le_trans a hT, cmt_mono te h1 h2 h3 b, c, fun j q => ?_⟩
    rw [h2 t j (Nat.le_trans (Nat.le_trans q c) b.2.1), hx j q]
    exact d j q
theorem cpt_le {ll : Nat → Nat → E} {L : Nat → Nat} {al : Nat → Nat → Nat} {x : Nat → E} {T k j : Nat} (h : CPt te ll L al x T k) (q : j ≤ k) : CPt te ll L al x T j := by
  rcases h with h | ⟨t, i, a, b, c, d⟩
  · exact Or.inl (by omega)
  · exact Or.inr ⟨t, i, a, b, Nat.le_trans q c, ag_le d q⟩
theorem nc_mono {tm tm' : Nat → Nat} {al al' : Nat → Nat → Nat} (h1 : ∀ w, tm w ≤ tm' w) (h2 : ∀ w t, t < tm w → al' w t = al w t) {t i : Nat} (h : NC tm al t i) : NC tm' al' t i := m3_mono h (fun w _ q => ⟨Nat.lt_of_lt_of_le q.1 (h1 w), by rw [h2 w t q.1]; exact q.2⟩)
theorem nc_cmt {tm : Nat → Nat} {ll : Nat → Nat → E} {L : Nat → Nat} {al : Nat → Nat → Nat} {t i : Nat} (h : NC tm al t i) (k : CMT te ll L al t i) : False := by
  obtain ⟨x, _, p, q⟩ := m3_meet h k.2.2.2
  omega
theorem lm_mono {ld ld' : Nat → Nat} {ll ll' : Nat → Nat → E} {L L' : Nat → Nat} (h1 : ∀ t, L t ≤ L' t) (h2 : ∀ t i, i ≤ L t → ll' t i = ll t i) (h4 : ∀ t, ld t ≠ 0 → ld' t = ld t) {x y : Nat → E} {i B B' : Nat} (hB : B ≤ B') (hx : Ag y x i) (h : LMx te ld ll L x i B) : LMx te ld' ll' L' y i B' := by
  obtain ⟨a, b, c, d⟩ := h
  have e : y i = x i := hx i (Nat.le_refl i)
  refine ⟨by rw [e]; omega, by rw [e, h4 _ b]; exact b, by rw [e]; exact Nat.le_trans c (h1 _), fun j q => ?_⟩
  rw [e, h2 _ j (Nat.le_trans q c), hx j q]
  exact d j q
/-- entries of one term at one place: the logs agree -/
theorem lm_eq {ld : Nat → Nat} {ll : Nat → Nat → E} {L : Nat → Nat} {x y : Nat → E} {i B C : Nat} (h : LMx te ld ll L x i B) (k : LMx te ld ll L y i C) (e : te (x i) = te (y i)) : Ag x y i := fun j q => by
  rw [h.2.2.2 j q, k.2.2.2 j q, e]
/-- terms grow along a log -/
theorem lm_tm {ld : Nat → Nat} {ll : Nat → Nat → E} {L : Nat → Nat} (hl : ∀ T i, 1 ≤ i → i ≤ L T → LMx te ld ll L (ll T) i T) {x : Nat → E} {i j B : Nat} (h : LMx te ld ll L x i B) (h1 : 1 ≤ j) (h2 : j ≤ i) : te (x j) ≤ te (x i) := by
  have e : x j = ll (te (x i)) j := h.2.2.2 j h2
  have := (hl (te (x i)) j h1 (Nat.le_trans h2 h.2.2.1)).1
  rw [e]; exact this
end
