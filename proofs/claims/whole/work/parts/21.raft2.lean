/-! ===== Raft: what each act keeps ===== -/
section
variable {E : Type} {te : E → Nat} {e0 : E} {tm rl : Nat → Nat} {vs : Nat → Nat → Prop} {ls : Nat → Nat} {lg : Nat → Nat → E} {cm bs : Nat → Nat} {mt : Nat → Nat → Nat} {gv : Nat → Nat → Nat} {cl : Nat → Nat → Nat → E} {cn : Nat → Nat → Nat} {ld : Nat → Nat} {ll : Nat → Nat → E} {L : Nat → Nat} {al : Nat → Nat → Nat}
/-- a committed prefix lies in the log of every leader of the same or a later term -/
theorem r_com (h : RI te e0 tm rl vs ls lg cm bs mt gv cl cn ld ll L al) {x : Nat → E} {T k : Nat} (hc : CPt te ll L al x T k) (hl : ld T ≠ 0) (hx : x 0 = e0) : k ≤ L T ∧ Ag x (ll T) k := by
  obtain ⟨_, ⟨_, z2, _⟩, _, _, _, _, _, _, _, _, _, _, r13, _⟩ := h
  rcases hc with hc | ⟨t, i, a, b, c, d⟩
  · subst hc
    exact ⟨Nat.zero_le _, fun j q => by rw [Nat.le_zero.mp q, hx, z2]⟩
  · rcases Nat.lt_or_eq_of_le a with a | a
    · rcases r13 T t i hl a b.1 b.2.1 b.2.2.1 with ⟨p, q⟩ | p
      · exact ⟨Nat.le_trans c p, ag_trans d (ag_symm (ag_le q c))⟩
      · exact (nc_cmt te p b).elim
    · subst a
      exact ⟨Nat.le_trans c b.2.1, d⟩
theorem r_one (h : RI te e0 tm rl vs ls lg cm bs mt gv cl cn ld ll L al) {t i t' i' : Nat} (a : CMT te ll L al t i) (b : CMT te ll L al t' i') (q : t ≤ t') : Ag (ll t') (ll t) i := by
  obtain ⟨_, ⟨_, z2, _⟩, ⟨_, r3⟩, _, _, _, _, _, _, _, _, _, r13, _⟩ := h
  rcases Nat.lt_or_eq_of_le q with q | q
  · have hl : ld t' ≠ 0 := fun e => by have := (r3 t').1 e; have := b.1; have := b.2.1; omega
    rcases r13 t' t i hl q a.1 a.2.1 a.2.2.1 with ⟨_, p⟩ | p
    · exact p
    · exact (nc_cmt te p a).elim
  · subst q; exact ag_refl _ _
/-- what is committed anywhere is the same -/
theorem r_safe (h : RI te e0 tm rl vs ls lg cm bs mt gv cl cn ld ll L al) {x y : Nat → E} {T k T' k' j : Nat} (a : CPt te ll L al x T k) (b : CPt te ll L al y T' k') (h1 : 1 ≤ j) (h2 : j ≤ k) (h3 : j ≤ k') : x j = y j := by
  rcases a with a | ⟨t, i, _, a, c, d⟩
  · omega
  rcases b with b | ⟨t', i', _, b, c', d'⟩
  · omega
  rw [d j h2, d' j h3]
  rcases Nat.le_total t t' with q | q
  · exact (r_one h a b q j (by omega)).symm
  · exact r_one h b a q j (by omega)
theorem ri_bump (h : RI te e0 tm rl vs ls lg cm bs mt gv cl cn ld ll L al) {v T : Nat} (hT : tm v < T) : RI te e0 (up1 tm v T) (up1 rl v 0) vs ls lg cm bs mt gv cl cn ld ll L al := by
  obtain ⟨⟨q0, q1, r1⟩, ⟨z1, z2, z3, z4⟩, ⟨r3a, r3⟩, r4, r5, r6, r7, r8, r9, r10, r11, r12, r13, r14⟩ := h
  have m : ∀ w, tm w ≤ up1 tm v T w := fun w => by
    by_cases e : w = v
    · subst e; rw [up1_eq]; omega
    · rw [up1_ne _ _ e]; exact Nat.le_refl _
  have n : ∀ {t i}, NC tm al t i → NC (up1 tm v T) al t i := fun p => nc_mono m (fun _ _ _ => rfl) p
  refine ⟨⟨q0, q1, fun w T' q => r1 w T' (Nat.lt_of_le_of_lt (m w) q)⟩, ⟨z1, z2, z3, z4⟩, ⟨r3a, fun T' => ⟨(r3 T').1, fun c e => ?_⟩⟩, fun w i a b => ?_, r5, r6, fun w a => ?_, fun w a => ?_, r9, fun w => ?_, fun w t i a b c d => ?_, fun w T' c t i a b c' d e => ?_, fun T' t i a b c d e => ?_, fun w => ?_⟩
  · obtain ⟨a, b, d⟩ := (r3 T').2 c e
    exact ⟨a, Nat.le_trans b (m c), d⟩
  · obtain ⟨c, d⟩ := r4 w i a b
    exact ⟨Nat.le_trans c (m w), d⟩
  · by_cases e : w = v
    · subst e; rw [up1_eq] at a; omega
    · rw [up1_ne _ _ e] at a ⊢; exact r7 w a
  · by_cases e : w = v
    · subst e; rw [up1_eq] at a; omega
    · rw [up1_ne _ _ e] at a ⊢; exact r8 w a
  · by_cases e : w = v
    · subst e; rw [up1_eq, (r1 w T hT).2]
      exact ⟨Nat.zero_le _, fun j q => by rw [Nat.le_zero.mp q, z1, z2]⟩
    · rw [up1_ne _ _ e]; exact r10 w
  · by_cases e : w = v
    · subst e; rw [up1_eq] at a
      rcases Nat.lt_trichotomy t (tm w) with e | e | e
      · exact (r11 w t i e b c d).imp id n
      · subst e; exact Or.inl ⟨Nat.le_trans c (r10 w).1, ag_le (r10 w).2 c⟩
      · rw [(r1 w t e).2] at c; omega
    · rw [up1_ne _ _ e] at a; exact (r11 w t i a b c d).imp id n
  · exact (r12 w T' c t i a b c' d e).imp id n
  · exact (r13 T' t i a b c d e).imp id n
  · obtain ⟨a, b, c⟩ := r14 w
    exact ⟨a, b, cpt_mono te (fun _ => Nat.le_refl _) (fun _ _ _ => rfl) (fun _ _ => Nat.le_refl _) (m w) (ag_refl _ _) c⟩
/-- a node stands for election: in a new term it votes for itself -/
theorem ri_self (h : RI te e0 tm rl vs ls lg cm bs mt gv cl cn ld ll L al) {v : Nat} (hv : gv v (tm v) = 0) (h1 : 1 ≤ tm v) (ht : ∀ i, 1 ≤ i → i ≤ ls v → te (lg v i) < tm v) {vs' : Nat → Nat → Prop} (hs : ∀ w, w ≠ v → vs' w = vs w) (hs' : ∀ w, w < 5 → vs' v w → w = v) : RI te e0 tm (up1 rl v 1) vs' ls lg cm bs mt (up2 gv v (tm v) (v + 1)) (up2 cl v (tm v) (lg v)) (up2 cn v (tm v) (ls v)) ld ll L al ∧ GX gv cl cn ld ll L al (up2 gv v (tm v) (v + 1)) (up2 cl v (tm v) (lg v)) (up2 cn v (tm v) (ls v)) ld ll L al := by
  obtain ⟨⟨q0, q1, r1⟩, ⟨z1, z2, z3, z4⟩, ⟨r3a, r3⟩, r4, r5, r6, r7, r8, r9, r10, r11, r12, r13, r14⟩ := h
  have g5 : ∀ w t, gv w t ≠ 0 → up2 gv v (tm v) (v + 1) w t = gv w t := fun w t q => by
    by_cases e : w = v ∧ t = tm v
    · obtain ⟨e1, e2⟩ := e; subst e1 e2; exact (q hv).elim
    · exact up2_ne _ _ e
  have g6 : ∀ c t, gv c t = c + 1 → up2 cl v (tm v) (lg v) c t = cl c t ∧ up2 cn v (tm v) (ls v) c t = cn c t := fun c t q => by
    by_cases e : c = v ∧ t = tm v
    · obtain ⟨e1, e2⟩ := e; subst e1 e2; omega
    · exact ⟨up2_ne _ _ e, up2_ne _ _ e⟩
  refine ⟨⟨⟨q0, fun w => ?_, fun w T' q => ⟨?_, (r1 w T' q).2⟩⟩, ⟨z1, z2, fun c T q => ?_, fun w T c q => ?_⟩, ⟨r3a, fun T' => ⟨(r3 T').1, fun c e => ?_⟩⟩, r4, r5, fun c T i q a b => ?_, fun w a => ?_, fun w a => ?_, r9, r10, r11, fun w T' c t i a b c' d e => ?_, r13, r14⟩, fun _ => Nat.le_refl _, fun _ _ _ => rfl, fun _ _ => Nat.le_refl _, fun _ _ => rfl, g5, g6⟩
  · rw [up2_ne _ _ (fun q => by omega)]; exact q1 w
  · rw [up2_ne _ _ (fun e => by obtain ⟨e1, e2⟩ := e; subst e1 e2; omega)]; exact (r1 w T' q).1
  · by_cases e : c = v ∧ T = tm v
    · obtain ⟨e1, e2⟩ := e; subst e1 e2; rw [up2_eq]; exact z1 c
    · rw [up2_ne _ _ e] at q ⊢; exact z3 c T q
  · by_cases e : w = v ∧ T = tm v
    · obtain ⟨e1, e2⟩ := e; subst e1 e2; rw [up2_eq] at q
      have : c = w := by omega
      subst this; exact up2_eq _ _ _ _
    · rw [up2_ne _ _ e] at q
      rw [g5 c T (by rw [z4 w T c q]; omega)]; exact z4 w T c q
  · obtain ⟨a, b, c', d, e'⟩ := (r3 T').2 c e
    exact ⟨a, b, m3_mono c' (fun w _ q => by rw [g5 w T' (by omega)]; exact q), d, by rw [g5 c T' (by omega)]; exact e'⟩
  · by_cases e : c = v ∧ T = tm v
    · obtain ⟨e1, e2⟩ := e; subst e1 e2; rw [up2_eq] at b ⊢; exact ⟨ht i a b, r4 c i a b⟩
    · rw [up2_ne _ _ e] at q b ⊢; exact r6 c T i q a b
  · by_cases e : w = v
    · subst e; rw [up1_eq] at a; omega
    · rw [up1_ne _ _ e] at a; exact r7 w a
  · by_cases e : w = v
    · subst e
      refine ⟨up2_eq _ _ _ _, (up2_eq _ _ _ _).symm, by rw [up2_eq]; exact ag_refl _ _, fun q => ?_, fun x hx q => ?_⟩
      · have := ((r3 (tm w)).2 w q).2.2.2.2; omega
      · rw [hs' x hx q]; exact up2_eq _ _ _ _
    · rw [up1_ne _ _ e] at a
      obtain ⟨a1, a2, a3, a4, a5⟩ := r8 w a
      rw [hs w e, g5 w (tm w) (by omega), (g6 w (tm w) a1).1, (g6 w (tm w) a1).2]
      exact ⟨a1, a2, a3, a4, fun x hx q => by rw [g5 x (tm w) (by rw [a5 x hx q]; omega)]; exact a5 x hx q⟩
  · by_cases f : w = v ∧ T' = tm v
    · obtain ⟨e1, e2⟩ := f; subst e1 e2; rw [up2_eq] at a
      have : c = w := by omega
      subst this
      rw [up2_eq, up2_eq]; exact r11 c t i b c' d e
    · rw [up2_ne _ _ f] at a
      by_cases f' : c = v ∧ T' = tm v
      · obtain ⟨e1, e2⟩ := f'; subst e1 e2
        have := z4 w _ _ a
        omega
      · rw [up2_ne _ _ f', up2_ne _ _ f']; exact r12 w T' c t i a b c' d e
end
