/-! ===== Raft: votes, leaders ===== -/
section
variable {E : Type} {te : E → Nat} {e0 : E} {tm rl : Nat → Nat} {vs : Nat → Nat → Prop} {ls : Nat → Nat} {lg : Nat → Nat → E} {cm bs : Nat → Nat} {mt : Nat → Nat → Nat} {gv : Nat → Nat → Nat} {cl : Nat → Nat → Nat → E} {cn : Nat → Nat → Nat} {ld : Nat → Nat} {ll : Nat → Nat → E} {L : Nat → Nat} {al : Nat → Nat → Nat}
/-- v votes for c in its term -/
theorem ri_vote (h : RI te e0 tm rl vs ls lg cm bs mt gv cl cn ld ll L al) {v c : Nat} (hv : gv v (tm v) = 0) (hc : gv c (tm v) = c + 1) (hu : te (lg v (ls v)) < te (cl c (tm v) (cn c (tm v))) ∨ te (lg v (ls v)) = te (cl c (tm v) (cn c (tm v))) ∧ ls v ≤ cn c (tm v)) : RI te e0 tm rl vs ls lg cm bs mt (up2 gv v (tm v) (c + 1)) cl cn ld ll L al ∧ GX gv cl cn ld ll L al (up2 gv v (tm v) (c + 1)) cl cn ld ll L al := by
  obtain ⟨⟨q0, q1, r1⟩, ⟨z1, z2, z3, z4⟩, ⟨r3a, r3⟩, r4, r5, r6, r7, r8, r9, r10, r11, r12, r13, r14⟩ := h
  have hvc : c ≠ v := fun e => by subst e; omega
  have h0 : tm v ≠ 0 := fun e => by rw [e, q1] at hc; omega
  have g5 : ∀ w t, gv w t ≠ 0 → up2 gv v (tm v) (c + 1) w t = gv w t := fun w t q => by
    by_cases e : w = v ∧ t = tm v
    · obtain ⟨e1, e2⟩ := e; subst e1 e2; exact (q hv).elim
    · exact up2_ne _ _ e
  have ow : ∀ w T, up2 gv v (tm v) (c + 1) w T = w + 1 → gv w T = w + 1 := fun w T q => by
    by_cases e : w = v ∧ T = tm v
    · obtain ⟨e1, e2⟩ := e; subst e1 e2; rw [up2_eq] at q; omega
    · rw [up2_ne _ _ e] at q; exact q
  refine ⟨⟨⟨q0, fun w => ?_, fun w T' q => ⟨?_, (r1 w T' q).2⟩⟩, ⟨z1, z2, fun c T q => z3 c T (ow c T q), fun w T d q => ?_⟩, ⟨r3a, fun T' => ⟨(r3 T').1, fun d e => ?_⟩⟩, r4, r5, fun d T i q a b => r6 d T i (ow d T q) a b, r7, fun w a => ?_, r9, r10, r11, fun w T' d t i a b c' d' e => ?_, r13, r14⟩, fun _ => Nat.le_refl _, fun _ _ _ => rfl, fun _ _ => Nat.le_refl _, fun _ _ => rfl, g5, fun _ _ _ => ⟨rfl, rfl⟩⟩
  · rw [up2_ne _ _ (fun q => h0 q.2.symm)]; exact q1 w
  · rw [up2_ne _ _ (fun e => by obtain ⟨e1, e2⟩ := e; subst e1 e2; omega)]; exact (r1 w T' q).1
  · by_cases e : w = v ∧ T = tm v
    · obtain ⟨e1, e2⟩ := e; subst e1 e2; rw [up2_eq] at q
      have : d = c := by omega
      subst this; rw [g5 d _ (by omega)]; exact hc
    · rw [up2_ne _ _ e] at q
      rw [g5 d T (by rw [z4 w T d q]; omega)]; exact z4 w T d q
  · obtain ⟨a, b, c', d', e'⟩ := (r3 T').2 d e
    exact ⟨a, b, m3_mono c' (fun w _ q => by rw [g5 w T' (by omega)]; exact q), d', by rw [g5 d T' (by omega)]; exact e'⟩
  · obtain ⟨a1, a2, a3, a4, a5⟩ := r8 w a
    exact ⟨by rw [g5 w _ (by omega)]; exact a1, a2, a3, a4, fun x hx q => by rw [g5 x _ (by rw [a5 x hx q]; omega)]; exact a5 x hx q⟩
  · by_cases f : w = v ∧ T' = tm v
    · obtain ⟨e1, e2⟩ := f; subst e1 e2; rw [up2_eq] at a
      have : d = c := by omega
      subst this
      rcases r11 w t i b c' d' e with ⟨p, q⟩ | p
      · have hi : te (lg w i) = t := by rw [q i (Nat.le_refl i)]; exact e
        have hls : 1 ≤ ls w := Nat.le_trans c' p
        have lmw := r4 w (ls w) hls (Nat.le_refl _)
        have tw : t ≤ te (lg w (ls w)) := by rw [← hi]; exact lm_tm te r5 lmw c' p
        have ht0 : t ≠ 0 := fun e' => by
          have := (r4 w i c' p).2.1; rw [hi, e', r3a] at this; exact this rfl
        by_cases hn : cn d (tm w) = 0
        · rw [hn, z3 d _ hc, q0] at hu; omega
        have lmc := (r6 d (tm w) (cn d (tm w)) hc (by omega) (Nat.le_refl _)).2
        rcases hu with hu | ⟨hu, hl⟩
        · -- the candidate's last term is above
          rcases r13 _ t i lmc.2.1 (Nat.lt_of_le_of_lt tw hu) c' (Nat.le_trans d' (r9 w t)) e with ⟨p1, p2⟩ | p1
          · refine Or.inl ?_
            have hlt : i ≤ cn d (tm w) := by
              rcases Nat.lt_or_ge (cn d (tm w)) i with k | k
              · exfalso
                have e1 : cl d (tm w) (cn d (tm w)) = ll t (cn d (tm w)) := (lmc.2.2.2 _ (Nat.le_refl _)).trans (p2 _ (by omega))
                have e2 := (r5 t (cn d (tm w)) (by omega) (Nat.le_trans (Nat.le_of_lt k) (Nat.le_trans d' (r9 w t)))).1
                rw [← e1] at e2; omega
              · exact k
            exact ⟨hlt, ag_trans (ag_le lmc.2.2.2 hlt) p2⟩
          · exact Or.inr p1
        · refine Or.inl ⟨Nat.le_trans p hl, fun j hj => ?_⟩
          rw [← q j hj, lmw.2.2.2 j (Nat.le_trans hj p), lmc.2.2.2 j (Nat.le_trans hj (Nat.le_trans p hl)), hu]
      · exact Or.inr p
    · rw [up2_ne _ _ f] at a
      exact r12 w T' d t i a b c' d' e
/-- roles may go, votes and matches may come that are true -/
theorem ri_weak (h : RI te e0 tm rl vs ls lg cm bs mt gv cl cn ld ll L al) {rl' : Nat → Nat} {vs' : Nat → Nat → Prop} {mt' : Nat → Nat → Nat} (hw : ∀ w, (rl' w ≠ 1 ∧ rl' w ≠ 2) ∨ (rl' w = rl w ∧ (rl w = 1 → ∀ x, x < 5 → vs' w x → vs w x ∨ gv x (tm w) = w + 1) ∧ (rl w = 2 → ∀ x, x < 5 → mt' w x ≤ mt w x ∨ mt' w x ≤ al x (tm w)))) : RI te e0 tm rl' vs' ls lg cm bs mt' gv cl cn ld ll L al := by
  obtain ⟨r1, r2, r3, r4, r5, r6, r7, r8, r9, r10, r11, r12, r13, r14⟩ := h
  refine ⟨r1, r2, r3, r4, r5, r6, fun w a => ?_, fun w a => ?_, r9, r10, r11, r12, r13, r14⟩
  · rcases hw w with e | ⟨e1, _, e3⟩
    · exact (e.2 a).elim
    · rw [e1] at a
      obtain ⟨a1, a2, a3, a4⟩ := r7 w a
      exact ⟨a1, a2, a3, fun x hx => (e3 a x hx).elim (fun q => Nat.le_trans q (a4 x hx)) id⟩
  · rcases hw w with e | ⟨e1, e2, _⟩
    · exact (e.1 a).elim
    · rw [e1] at a
      obtain ⟨a1, a2, a3, a4, a5⟩ := r8 w a
      exact ⟨a1, a2, a3, a4, fun x hx q => (e2 a x hx q).elim (a5 x hx) id⟩
/-- before a candidate leads, nobody led that term -/
theorem r_nold (h : RI te e0 tm rl vs ls lg cm bs mt gv cl cn ld ll L al) {v : Nat} (h1 : rl v = 1) (h3 : M3 (fun w => vs v w)) : ld (tm v) = 0 := by
  obtain ⟨r1, r2, ⟨_, r3⟩, r4, r5, r6, r7, r8, r9, r10, r11, r12, r13, r14⟩ := h
  obtain ⟨a1, a2, a3, a4, a5⟩ := r8 v h1
  rcases hh : ld (tm v) with _ | c
  · rfl
  · exfalso
    obtain ⟨x, hx, p, q⟩ := m3_meet h3 ((r3 (tm v)).2 c hh).2.2.1
    have := a5 x hx p
    have : c = v := by omega
    subst this; exact a4 hh
theorem ri_lead (h : RI te e0 tm rl vs ls lg cm bs mt gv cl cn ld ll L al) {v : Nat} (h5 : v < 5) (h1 : rl v = 1) (h3 : M3 (fun w => vs v w)) {mt' : Nat → Nat → Nat} (hm : ∀ w, w ≠ v → mt' w = mt w) (hm' : ∀ w, w < 5 → mt' v w = 0) : RI te e0 tm (up1 rl v 2) vs ls lg cm bs mt' gv cl cn (up1 ld (tm v) (v + 1)) (up1 ll (tm v) (lg v)) (up1 L (tm v) (ls v)) (up2 al v (tm v) (ls v)) ∧ GX gv cl cn ld ll L al gv cl cn (up1 ld (tm v) (v + 1)) (up1 ll (tm v) (lg v)) (up1 L (tm v) (ls v)) (up2 al v (tm v) (ls v)) := by
  have l0 := r_nold h h1 h3
  obtain ⟨⟨q0, q1, r1⟩, ⟨z1, z2, z3, z4⟩, ⟨r3a, r3⟩, r4, r5, r6, r7, r8, r9, r10, r11, r12, r13, r14⟩ := h
  obtain ⟨a1, a2, a3, a4, a5⟩ := r8 v h1
  have L0 : L (tm v) = 0 := (r3 (tm v)).1 l0
  have A0 : ∀ w, al w (tm v) = 0 := fun w => by have := r9 w (tm v); omega
  have h0 : tm v ≠ 0 := fun e => by rw [e, q1] at a1; omega
  have g1 : ∀ t, L t ≤ up1 L (tm v) (ls v) t := fun t => by
    by_cases e : t = tm v
    · subst e; rw [L0]; exact Nat.zero_le _
    · rw [up1_ne _ _ e]; exact Nat.le_refl _
  have g2 : ∀ t i, i ≤ L t → up1 ll (tm v) (lg v) t i = ll t i := fun t i q => by
    by_cases e : t = tm v
    · subst e; rw [L0] at q; rw [up1_eq, Nat.le_zero.mp q, z1, z2]
    · rw [up1_ne _ _ e]
  have g3 : ∀ w t, al w t ≤ up2 al v (tm v) (ls v) w t := fun w t => by
    by_cases e : w = v ∧ t = tm v
    · obtain ⟨e1, e2⟩ := e; subst e1 e2; rw [A0]; exact Nat.zero_le _
    · rw [up2_ne _ _ e]; exact Nat.le_refl _
  have g4 : ∀ t, ld t ≠ 0 → up1 ld (tm v) (v + 1) t = ld t := fun t q => by
    by_cases e : t = tm v
    · subst e; exact (q l0).elim
    · rw [up1_ne _ _ e]
  have an : ∀ w t, t < tm w → up2 al v (tm v) (ls v) w t = al w t := fun w t q => up2_ne _ _ (fun e => by obtain ⟨e1, e2⟩ := e; subst e1 e2; omega)
  have n : ∀ {t i}, NC tm al t i → NC tm (up2 al v (tm v) (ls v)) t i := fun p => nc_mono (fun _ => Nat.le_refl _) an p
  have nT : ∀ {x i B}, 1 ≤ i → LMx te ld ll L x i B → te (x i) ≠ tm v := fun {x i B} q p e => by
    have := p.2.2.1; rw [e, L0] at this; omega
  have ba : ∀ {t i w}, 1 ≤ i → i ≤ up2 al v (tm v) (ls v) w t → w ≠ v → t = tm v → False := fun {t i w} p q e1 e2 => by
    subst e2; rw [up2_n1 _ _ _ e1, A0] at q; omega
  refine ⟨⟨⟨q0, q1, fun w T' q => ⟨(r1 w T' q).1, ?_⟩⟩, ⟨z1, fun T => ?_, z3, z4⟩, ⟨?_, fun T' => ⟨fun e => ?_, fun c e => ?_⟩⟩, fun w i a b => lm_mono te g1 g2 g4 (Nat.le_refl _) (ag_refl _ _) (r4 w i a b), fun T i a b => ?_, fun c T i q a b => ⟨(r6 c T i q a b).1, lm_mono te g1 g2 g4 (Nat.le_refl _) (ag_refl _ _) (r6 c T i q a b).2⟩, fun w a => ?_, fun w a => ?_, fun w t => ?_, fun w => ?_, fun w t i a b c d => ?_, fun w T' c t i a b c' d e => ?_, fun T' t i a b c d e => ?_, fun w => ?_⟩, g1, g2, g3, g4, fun _ _ _ => rfl, fun _ _ _ => ⟨rfl, rfl⟩⟩
  · rw [up2_ne _ _ (fun e => by obtain ⟨e1, e2⟩ := e; subst e1 e2; omega)]; exact (r1 w T' q).2
  · by_cases e : T = tm v
    · subst e; rw [up1_eq]; exact z1 v
    · rw [up1_ne _ _ e]; exact z2 T
  · rw [up1_ne _ _ (Ne.symm h0)]; exact r3a
  · by_cases f : T' = tm v
    · subst f; rw [up1_eq] at e; omega
    · rw [up1_ne _ _ f] at e ⊢; exact (r3 T').1 e
  · by_cases f : T' = tm v
    · subst f; rw [up1_eq] at e
      have : c = v := by omega
      subst this
      exact ⟨h5, Nat.le_refl _, m3_mono h3 (fun w hw q => a5 w hw q), by rw [up2_eq, up1_eq], a1⟩
    · rw [up1_ne _ _ f] at e ⊢
      obtain ⟨b1, b2, b3, b4, b5⟩ := (r3 T').2 c e
      exact ⟨b1, b2, b3, by rw [up2_n2 _ _ _ f]; exact b4, b5⟩
  · by_cases f : T = tm v
    · subst f; rw [up1_eq] at b ⊢
      exact lm_mono te g1 g2 g4 (Nat.le_refl _) (ag_refl _ _) (r4 v i a b)
    · rw [up1_ne _ _ f] at b ⊢
      exact lm_mono te g1 g2 g4 (Nat.le_refl _) (ag_refl _ _) (r5 T i a b)
  · by_cases e : w = v
    · subst e
      rw [up1_eq, up1_eq, up1_eq]
      exact ⟨rfl, rfl, ag_refl _ _, fun x hx => by rw [hm' x hx]; exact Nat.zero_le _⟩
    · rw [up1_ne _ _ e] at a
      obtain ⟨b1, b2, b3, b4⟩ := r7 w a
      have f : tm w ≠ tm v := fun f => by rw [f, l0] at b1; omega
      rw [up1_ne _ _ f, up1_ne _ _ f, up1_ne _ _ f, hm w e]
      exact ⟨b1, b2, b3, fun x hx => Nat.le_trans (b4 x hx) (g3 x _)⟩
  · by_cases e : w = v
    · subst e; rw [up1_eq] at a; omega
    · rw [up1_ne _ _ e] at a
      obtain ⟨b1, b2, b3, b4, b5⟩ := r8 w a
      refine ⟨b1, b2, b3, ?_, b5⟩
      by_cases f : tm w = tm v
      · rw [f, up1_eq]; omega
      · rw [up1_ne _ _ f]; exact b4
  · by_cases e : w = v ∧ t = tm v
    · obtain ⟨e1, e2⟩ := e; subst e1 e2; rw [up2_eq, up1_eq]; exact Nat.le_refl _
    · rw [up2_ne _ _ e]; exact Nat.le_trans (r9 w t) (g1 t)
  · by_cases e : w = v
    · subst e; rw [up2_eq, up1_eq]; exact ⟨Nat.le_refl _, ag_refl _ _⟩
    · rw [up2_n1 _ _ _ e]
      exact ⟨(r10 w).1, fun j q => by rw [g2 _ j (Nat.le_trans q (r9 w _))]; exact (r10 w).2 j q⟩
  · have f : ¬ (w ≠ v ∧ t = tm v) := fun f => ba b c f.1 f.2
    have f' : t ≠ tm v := fun f' => by
      by_cases e : w = v
      · subst e; omega
      · exact f ⟨e, f'⟩
    rw [up2_n2 _ _ _ f'] at c
    rw [up1_ne _ _ f'] at d ⊢
    exact (r11 w t i a b c d).imp id n
  · have tw : T' ≤ tm w := by
      rcases Nat.lt_or_ge (tm w) T' with k | k
      · rw [(r1 w T' k).1] at a; omega
      · exact k
    have f' : t ≠ tm v := fun f' => by
      by_cases e' : w = v
      · subst e'; omega
      · exact ba c' d e' f'
    rw [up2_n2 _ _ _ f'] at d
    rw [up1_ne _ _ f'] at e ⊢
    exact (r12 w T' c t i a b c' d e).imp id n
  · by_cases f : t = tm v
    · subst f; rw [up1_eq] at d e
      exact (nT c (r4 v i c d) e).elim
    · rw [up1_ne _ _ f] at d e ⊢
      by_cases f2 : T' = tm v
      · subst f2; rw [up1_eq, up1_eq]
        by_cases k : ∃ w, w < 5 ∧ vs v w ∧ i ≤ al w t
        · obtain ⟨w, hw, k1, k2⟩ := k
          rcases r12 w (tm v) v t i (a5 w hw k1) b c k2 e with ⟨p, q⟩ | p
          · rw [← a2] at p
            exact Or.inl ⟨p, ag_trans (ag_le a3 p) q⟩
          · exact Or.inr (n p)
        · refine Or.inr (m3_mono h3 (fun w hw q => ?_))
          have tw : tm v ≤ tm w := by
            rcases Nat.lt_or_ge (tm w) (tm v) with k' | k'
            · have := a5 w hw q; rw [(r1 w _ k').1] at this; omega
            · exact k'
          refine ⟨Nat.lt_of_lt_of_le b tw, ?_⟩
          rw [an w t (Nat.lt_of_lt_of_le b tw)]
          rcases Nat.lt_or_ge (al w t) i with k' | k'
          · exact k'
          · exact (k ⟨w, hw, q, k'⟩).elim
      · rw [up1_ne _ _ f2] at a ⊢; rw [up1_ne _ _ f2]
        exact (r13 T' t i a b c d e).imp id n
  · obtain ⟨a, b, c⟩ := r14 w
    exact ⟨a, b, cpt_mono te g1 g2 g3 (Nat.le_refl _) (ag_refl _ _) c⟩
end
