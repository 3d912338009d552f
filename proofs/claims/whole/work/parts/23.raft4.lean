/-! ===== Raft: logs ===== -/
section
variable {E : Type} {te : E → Nat} {e0 : E} {tm rl : Nat → Nat} {vs : Nat → Nat → Prop} {ls : Nat → Nat} {lg : Nat → Nat → E} {cm bs : Nat → Nat} {mt : Nat → Nat → Nat} {gv : Nat → Nat → Nat} {cl : Nat → Nat → Nat → E} {cn : Nat → Nat → Nat} {ld : Nat → Nat} {ll : Nat → Nat → E} {L : Nat → Nat} {al : Nat → Nat → Nat}
/-- a leader lengthens its log -/
theorem ri_push (h : RI te e0 tm rl vs ls lg cm bs mt gv cl cn ld ll L al) {v : Nat} (h2 : rl v = 2) {e : E} (he : te e = tm v) : RI te e0 tm rl vs (up1 ls v (ls v + 1)) (up2 lg v (ls v + 1) e) cm bs mt gv cl cn ld (up2 ll (tm v) (ls v + 1) e) (up1 L (tm v) (ls v + 1)) (up2 al v (tm v) (ls v + 1)) ∧ GX gv cl cn ld ll L al gv cl cn ld (up2 ll (tm v) (ls v + 1) e) (up1 L (tm v) (ls v + 1)) (up2 al v (tm v) (ls v + 1)) := by
  obtain ⟨⟨q0, q1, r1⟩, ⟨z1, z2, z3, z4⟩, ⟨r3a, r3⟩, r4, r5, r6, r7, r8, r9, r10, r11, r12, r13, r14⟩ := h
  obtain ⟨a1, a2, a3, a4⟩ := r7 v h2
  have g1 : ∀ t, L t ≤ up1 L (tm v) (ls v + 1) t := fun t => by
    by_cases e : t = tm v
    · subst e; rw [up1_eq]; omega
    · rw [up1_ne _ _ e]; exact Nat.le_refl _
  have g2 : ∀ t i, i ≤ L t → up2 ll (tm v) (ls v + 1) e t i = ll t i := fun t i q => up2_ne _ _ (fun e => by obtain ⟨e1, e2⟩ := e; subst e1; omega)
  have lv := (r3 (tm v)).2 v a1
  have g3 : ∀ w t, al w t ≤ up2 al v (tm v) (ls v + 1) w t := fun w t => by
    by_cases e : w = v ∧ t = tm v
    · obtain ⟨e1, e2⟩ := e; subst e1 e2; rw [up2_eq]; omega
    · rw [up2_ne _ _ e]; exact Nat.le_refl _
  have an : ∀ w t, t < tm w → up2 al v (tm v) (ls v + 1) w t = al w t := fun w t q => up2_ne _ _ (fun e => by obtain ⟨e1, e2⟩ := e; subst e1 e2; omega)
  have n : ∀ {t i}, NC tm al t i → NC tm (up2 al v (tm v) (ls v + 1)) t i := fun p => nc_mono (fun _ => Nat.le_refl _) an p
  have gl : ∀ w j, j ≤ ls w → up2 lg v (ls v + 1) e w j = lg w j := fun w j q => up2_ne _ _ (fun e => by obtain ⟨e1, e2⟩ := e; subst e1; omega)
  have top : Ag (up2 lg v (ls v + 1) e v) (up2 ll (tm v) (ls v + 1) e (tm v)) (ls v + 1) := fun j q => by
    by_cases f : j = ls v + 1
    · subst f; rw [up2_eq, up2_eq]
    · rw [up2_n2 _ _ _ f, up2_n2 _ _ _ f]; exact a3 j (by omega)
  refine ⟨⟨⟨q0, q1, fun w T' q => ⟨(r1 w T' q).1, ?_⟩⟩, ⟨fun w => ?_, fun T => ?_, z3, z4⟩, ⟨r3a, fun T' => ⟨fun f => ?_, fun c f => ?_⟩⟩, fun w i a b => ?_, fun T i a b => ?_, fun c T i q a b => ⟨(r6 c T i q a b).1, lm_mono te g1 g2 (fun _ _ => rfl) (Nat.le_refl _) (ag_refl _ _) (r6 c T i q a b).2⟩, fun w a => ?_, fun w a => ?_, fun w t => ?_, fun w => ?_, fun w t i a b c d => ?_, fun w T' c t i a b c' d f => ?_, fun T' t i a b c d f => ?_, fun w => ?_⟩, g1, g2, g3, fun _ _ => rfl, fun _ _ _ => rfl, fun _ _ _ => ⟨rfl, rfl⟩⟩
  · rw [up2_ne _ _ (fun e => by obtain ⟨e1, e2⟩ := e; subst e1 e2; omega)]; exact (r1 w T' q).2
  · rw [gl w 0 (Nat.zero_le _)]; exact z1 w
  · rw [g2 T 0 (Nat.zero_le _)]; exact z2 T
  · rw [up1_ne _ _ (fun k => by subst k; rw [f] at a1; omega)]; exact (r3 T').1 f
  · obtain ⟨b1, b2, b3, b4, b5⟩ := (r3 T').2 c f
    refine ⟨b1, b2, b3, ?_, b5⟩
    by_cases k : T' = tm v
    · subst k
      have : c = v := by omega
      subst this; rw [up2_eq, up1_eq]
    · rw [up2_n2 _ _ _ k, up1_ne _ _ k]; exact b4
  · by_cases f : w = v ∧ i = ls v + 1
    · obtain ⟨e1, e2⟩ := f; subst e1 e2
      refine ⟨by rw [up2_eq, he]; exact Nat.le_refl _, by rw [up2_eq, he, a1]; omega, by rw [up2_eq, he, up1_eq]; exact Nat.le_refl _, ?_⟩
      rw [up2_eq, he]; exact top
    · have b' : i ≤ ls w := by
        by_cases k : w = v
        · subst k; rw [up1_eq] at b
          have : i ≠ ls w + 1 := fun q => f ⟨rfl, q⟩
          omega
        · rw [up1_ne _ _ k] at b; exact b
      exact lm_mono te g1 g2 (fun _ _ => rfl) (Nat.le_refl _) (fun j q => gl w j (by omega)) (r4 w i a b')
  · by_cases f : T = tm v ∧ i = ls v + 1
    · obtain ⟨e1, e2⟩ := f; subst e1 e2
      refine ⟨by rw [up2_eq, he]; exact Nat.le_refl _, by rw [up2_eq, he, a1]; omega, by rw [up2_eq, he, up1_eq]; exact Nat.le_refl _, ?_⟩
      rw [up2_eq, he]; exact ag_refl _ _
    · have b' : i ≤ L T := by
        by_cases k : T = tm v
        · subst k; rw [up1_eq] at b
          have : i ≠ ls v + 1 := fun q => f ⟨rfl, q⟩
          omega
        · rw [up1_ne _ _ k] at b; exact b
      exact lm_mono te g1 g2 (fun _ _ => rfl) (Nat.le_refl _) (fun j q => g2 T j (by omega)) (r5 T i a b')
  · by_cases f : w = v
    · subst f; rw [up1_eq, up1_eq]
      exact ⟨a1, rfl, top, fun x hx => Nat.le_trans (a4 x hx) (g3 x _)⟩
    · obtain ⟨b1, b2, b3, b4⟩ := r7 w a
      have k : tm w ≠ tm v := fun k => by rw [k, a1] at b1; omega
      rw [up1_ne _ _ f, up1_ne _ _ k]
      exact ⟨b1, b2, fun j q => by rw [gl w j q, g2 _ j (by omega)]; exact b3 j q, fun x hx => Nat.le_trans (b4 x hx) (g3 x _)⟩
  · have f : w ≠ v := fun f => by subst f; omega
    obtain ⟨b1, b2, b3, b4, b5⟩ := r8 w a
    rw [up1_ne _ _ f]
    exact ⟨b1, b2, fun j q => by rw [gl w j q]; exact b3 j q, b4, b5⟩
  · by_cases f : w = v ∧ t = tm v
    · obtain ⟨e1, e2⟩ := f; subst e1 e2; rw [up2_eq, up1_eq]; exact Nat.le_refl _
    · rw [up2_ne _ _ f]; exact Nat.le_trans (r9 w t) (g1 t)
  · by_cases f : w = v
    · subst f; rw [up2_eq, up1_eq]; exact ⟨Nat.le_refl _, top⟩
    · rw [up2_n1 _ _ _ f, up1_ne _ _ f]
      exact ⟨(r10 w).1, fun j q => by rw [g2 _ j (Nat.le_trans q (r9 w _)), gl w j (Nat.le_trans q (r10 w).1)]; exact (r10 w).2 j q⟩
  · rw [an w t a] at c
    have ci : i ≤ L t := Nat.le_trans c (r9 w t)
    rw [g2 t i ci] at d
    rcases r11 w t i a b c d with ⟨p, q⟩ | p
    · refine Or.inl ⟨?_, fun j k => ?_⟩
      · by_cases f : w = v
        · subst f; rw [up1_eq]; omega
        · rw [up1_ne _ _ f]; exact p
      · rw [gl w j (by omega), g2 t j (by omega)]; exact q j k
    · exact Or.inr (n p)
  · have tw : T' ≤ tm w := by
      rcases Nat.lt_or_ge (tm w) T' with k | k
      · rw [(r1 w T' k).1] at a; omega
      · exact k
    rw [an w t (by omega)] at d
    have ci : i ≤ L t := Nat.le_trans d (r9 w t)
    rw [g2 t i ci] at f
    rcases r12 w T' c t i a b c' d f with ⟨p, q⟩ | p
    · exact Or.inl ⟨p, fun j k => by rw [g2 t j (by omega)]; exact q j k⟩
    · exact Or.inr (n p)
  · by_cases k : t = tm v ∧ i = ls v + 1
    · obtain ⟨e1, e2⟩ := k; subst e1 e2
      rcases hh : ld T' with _ | x
      · exact (a hh).elim
      · obtain ⟨b1, b2, b3, b4, b5⟩ := (r3 T').2 x hh
        refine Or.inr (m3_mono b3 (fun w _ q => ?_))
        have tw : T' ≤ tm w := by
          rcases Nat.lt_or_ge (tm w) T' with k | k
          · rw [(r1 w T' k).1] at q; omega
          · exact k
        refine ⟨by omega, ?_⟩
        rw [an w _ (by omega)]
        have := r9 w (tm v); omega
    · have ci : i ≤ L t := by
        by_cases k' : t = tm v
        · subst k'; rw [up1_eq] at d
          have : i ≠ ls v + 1 := fun q => k ⟨rfl, q⟩
          omega
        · rw [up1_ne _ _ k'] at d; exact d
      rw [g2 t i ci] at f
      rcases r13 T' t i a b c ci f with ⟨p, q⟩ | p
      · exact Or.inl ⟨Nat.le_trans p (g1 T'), fun j k => by rw [g2 t j (by omega), g2 T' j (by omega)]; exact q j k⟩
      · exact Or.inr (n p)
  · obtain ⟨a, b, c⟩ := r14 w
    refine ⟨?_, b, cpt_mono te g1 g2 g3 (Nat.le_refl _) (fun j q => gl w j (by omega)) c⟩
    by_cases f : w = v
    · subst f; rw [up1_eq]; omega
    · rw [up1_ne _ _ f]; exact a
/-- the log of a node that follows changes to a part of its leader's: it keeps what it accepted -/
theorem ri_log (h : RI te e0 tm rl vs ls lg cm bs mt gv cl cn ld ll L al) {v : Nat} (hr : rl v ≠ 1 ∧ rl v ≠ 2) (hl : ld (tm v) ≠ 0) {x : Nat → E} {m : Nat} (hm : m ≤ L (tm v)) (hx : Ag x (ll (tm v)) m) (hd : ls v < m ∨ te (lg v m) ≠ te (ll (tm v) m)) : RI te e0 tm rl vs (up1 ls v m) (up1 lg v x) cm bs mt gv cl cn ld ll L al := by
  have h' := h
  obtain ⟨⟨q0, q1, r1⟩, ⟨z1, z2, z3, z4⟩, ⟨r3a, r3⟩, r4, r5, r6, r7, r8, r9, r10, r11, r12, r13, r14⟩ := h
  have nd : ∀ {y : Nat → E} {i}, i ≤ ls v → Ag (lg v) y i → Ag y (ll (tm v)) i → i < m := fun {y i} p q s => by
    rcases Nat.lt_or_ge i m with k | k
    · exact k
    · rcases hd with k' | k'
      · omega
      · exact (k' (by rw [q m k, s m k])).elim
  have gA : ∀ {w i} {y : Nat → E}, i ≤ ls w → Ag (lg w) y i → (w = v → Ag y (ll (tm v)) i) → i ≤ up1 ls v m w ∧ Ag (up1 lg v x w) y i := fun {w i y} p q s => by
    by_cases f : w = v
    · subst f
      have := nd p q (s rfl)
      rw [up1_eq, up1_eq]
      exact ⟨by omega, fun j k => by rw [hx j (by omega)]; exact (s rfl j k).symm⟩
    · rw [up1_ne _ _ f, up1_ne _ _ f]; exact ⟨p, q⟩
  refine ⟨⟨q0, q1, r1⟩, ⟨fun w => ?_, z2, z3, z4⟩, ⟨r3a, r3⟩, fun w i a b => ?_, r5, r6, fun w a => ?_, fun w a => ?_, r9, fun w => ?_, fun w t i a b c d => ?_, r12, r13, fun w => ?_⟩
  · by_cases f : w = v
    · subst f; rw [up1_eq, hx 0 (Nat.zero_le _)]; exact z2 _
    · rw [up1_ne _ _ f]; exact z1 w
  · by_cases f : w = v
    · subst f; rw [up1_eq] at b ⊢
      exact lm_mono te (fun _ => Nat.le_refl _) (fun _ _ _ => rfl) (fun _ _ => rfl) (Nat.le_refl _) (ag_le hx b) (r5 (tm w) i a (by omega))
    · rw [up1_ne _ _ f] at b ⊢; exact r4 w i a b
  · by_cases f : w = v
    · subst f; exact (hr.2 a).elim
    · rw [up1_ne _ _ f, up1_ne _ _ f]; exact r7 w a
  · by_cases f : w = v
    · subst f; exact (hr.1 a).elim
    · rw [up1_ne _ _ f, up1_ne _ _ f]; exact r8 w a
  · exact gA (r10 w).1 (r10 w).2 (fun f => by subst f; exact ag_refl _ _)
  · rcases r11 w t i a b c d with ⟨p, q⟩ | p
    · by_cases f : w = v
      · subst f
        rcases r13 _ t i hl a b (Nat.le_trans c (r9 w t)) d with ⟨p1, p2⟩ | p1
        · exact Or.inl (gA p q (fun _ => ag_symm p2))
        · exact Or.inr p1
      · exact Or.inl (gA p q (fun k => (f k).elim))
    · exact Or.inr p
  · obtain ⟨a, b, c⟩ := r14 w
    by_cases f : w = v
    · subst f
      obtain ⟨p, q⟩ := r_com h' c hl (z1 w)
      obtain ⟨p1, p2⟩ := gA a q (fun _ => ag_refl _ _)
      exact ⟨p1, b, cpt_mono te (fun _ => Nat.le_refl _) (fun _ _ _ => rfl) (fun _ _ => Nat.le_refl _) (Nat.le_refl _) (ag_trans p2 (ag_symm q)) c⟩
    · rw [up1_ne _ _ f, up1_ne _ _ f]; exact ⟨a, b, c⟩
/-- a node accepts -/
theorem ri_ack (h : RI te e0 tm rl vs ls lg cm bs mt gv cl cn ld ll L al) {v i : Nat} (hi : i ≤ ls v) (hL : i ≤ L (tm v)) (hg : Ag (lg v) (ll (tm v)) i) : RI te e0 tm rl vs ls lg cm bs mt gv cl cn ld ll L (up2 al v (tm v) (max (al v (tm v)) i)) ∧ GX gv cl cn ld ll L al gv cl cn ld ll L (up2 al v (tm v) (max (al v (tm v)) i)) := by
  obtain ⟨⟨q0, q1, r1⟩, ⟨z1, z2, z3, z4⟩, ⟨r3a, r3⟩, r4, r5, r6, r7, r8, r9, r10, r11, r12, r13, r14⟩ := h
  have g3 : ∀ w t, al w t ≤ up2 al v (tm v) (max (al v (tm v)) i) w t := fun w t => by
    by_cases e : w = v ∧ t = tm v
    · obtain ⟨e1, e2⟩ := e; subst e1 e2; rw [up2_eq]; omega
    · rw [up2_ne _ _ e]; exact Nat.le_refl _
  have an : ∀ w t, t < tm w → up2 al v (tm v) (max (al v (tm v)) i) w t = al w t := fun w t q => up2_ne _ _ (fun e => by obtain ⟨e1, e2⟩ := e; subst e1 e2; omega)
  have n : ∀ {t j}, NC tm al t j → NC tm (up2 al v (tm v) (max (al v (tm v)) i)) t j := fun p => nc_mono (fun _ => Nat.le_refl _) an p
  refine ⟨⟨⟨q0, q1, fun w T' q => ⟨(r1 w T' q).1, ?_⟩⟩, ⟨z1, z2, z3, z4⟩, ⟨r3a, fun T' => ⟨(r3 T').1, fun c f => ?_⟩⟩, r4, r5, r6, fun w a => ?_, r8, fun w t => ?_, fun w => ?_, fun w t j a b c d => ?_, fun w T' c t j a b c' d f => ?_, fun T' t j a b c d f => (r13 T' t j a b c d f).imp id n, fun w => ?_⟩, fun _ => Nat.le_refl _, fun _ _ _ => rfl, g3, fun _ _ => rfl, fun _ _ _ => rfl, fun _ _ _ => ⟨rfl, rfl⟩⟩
  · rw [up2_ne _ _ (fun e => by obtain ⟨e1, e2⟩ := e; subst e1 e2; omega)]; exact (r1 w T' q).2
  · obtain ⟨b1, b2, b3, b4, b5⟩ := (r3 T').2 c f
    refine ⟨b1, b2, b3, ?_, b5⟩
    by_cases k : c = v ∧ T' = tm v
    · obtain ⟨e1, e2⟩ := k; subst e1 e2; rw [up2_eq]; omega
    · rw [up2_ne _ _ k]; exact b4
  · obtain ⟨b1, b2, b3, b4⟩ := r7 w a
    exact ⟨b1, b2, b3, fun x hx => Nat.le_trans (b4 x hx) (g3 x _)⟩
  · by_cases k : w = v ∧ t = tm v
    · obtain ⟨e1, e2⟩ := k; subst e1 e2; rw [up2_eq]; have := r9 w (tm w); omega
    · rw [up2_ne _ _ k]; exact r9 w t
  · by_cases f : w = v
    · subst f; rw [up2_eq]
      refine ⟨by have := (r10 w).1; omega, fun j q => ?_⟩
      rcases Nat.lt_or_ge (al w (tm w)) j with k | k
      · exact hg j (by omega)
      · exact (r10 w).2 j k
    · rw [up2_n1 _ _ _ f]; exact r10 w
  · rw [an w t a] at c; exact (r11 w t j a b c d).imp id n
  · have tw : T' ≤ tm w := by
      rcases Nat.lt_or_ge (tm w) T' with k | k
      · rw [(r1 w T' k).1] at a; omega
      · exact k
    rw [an w t (by omega)] at d
    exact (r12 w T' c t j a b c' d f).imp id n
  · obtain ⟨a, b, c⟩ := r14 w
    exact ⟨a, b, cpt_mono te (fun _ => Nat.le_refl _) (fun _ _ _ => rfl) g3 (Nat.le_refl _) (ag_refl _ _) c⟩
/-- COMMIT and BASE of a node -/
theorem ri_cm (h : RI te e0 tm rl vs ls lg cm bs mt gv cl cn ld ll L al) {v k b : Nat} (hk : k ≤ ls v) (hb : b ≤ k) (hc : CPt te ll L al (lg v) (tm v) k) : RI te e0 tm rl vs ls lg (up1 cm v k) (up1 bs v b) mt gv cl cn ld ll L al := by
  obtain ⟨r1, r2, r3, r4, r5, r6, r7, r8, r9, r10, r11, r12, r13, r14⟩ := h
  refine ⟨r1, r2, r3, r4, r5, r6, r7, r8, r9, r10, r11, r12, r13, fun w => ?_⟩
  by_cases f : w = v
  · subst f; rw [up1_eq, up1_eq]; exact ⟨hk, hb, hc⟩
  · rw [up1_ne _ _ f, up1_ne _ _ f]; exact r14 w
theorem r_lcom (h : RI te e0 tm rl vs ls lg cm bs mt gv cl cn ld ll L al) {v i a b : Nat} (h2 : rl v = 2) (h1 : 1 ≤ i) (hi : i ≤ ls v) (ht : te (lg v i) = tm v) (ha : a < 5) (hb : b < 5) (e1 : a ≠ v) (e2 : b ≠ v) (e3 : a ≠ b) (ma : i ≤ mt v a) (mb : i ≤ mt v b) : CPt te ll L al (lg v) (tm v) i := by
  obtain ⟨r1, r2, ⟨_, r3⟩, r4, r5, r6, r7, r8, r9, r10, r11, r12, r13, r14⟩ := h
  obtain ⟨a1, a2, a3, a4⟩ := r7 v h2
  obtain ⟨b1, b2, b3, b4, b5⟩ := (r3 (tm v)).2 v a1
  refine Or.inr ⟨tm v, i, Nat.le_refl _, ⟨h1, by omega, by rw [← a3 i hi]; exact ht, v, a, b, b1, ha, hb, Ne.symm e1, Ne.symm e2, e3, ?_, Nat.le_trans ma (a4 a ha), Nat.le_trans mb (a4 b hb)⟩, Nat.le_refl _, ag_le a3 hi⟩
  show i ≤ al v (tm v)
  rw [b4, ← a2]; exact hi
end
