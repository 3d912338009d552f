/-! ===== a SNAPSHOT is installed ===== -/
theorem aI_sR' (h : Hp) (f b : Nat) (v : Option Nat) (a : Nat) : aI (sR h f b v) a = aI h a := rfl
theorem aR_sR' (h : Hp) (f b : Nat) (v : Option Nat) (a : Nat) : aR (sR h f b v) a = aR h a := rfl
theorem sI_id (h : Hp) (f a : Nat) : sI h f a (hI h f a) = h := by
  unfold sI
  have : up2 (hI h) f a (hI h f a) = hI h := by
    funext g c; unfold up2; split
    · rename_i z; rw [z.1, z.2]
    · rfl
  rw [this]; rfl
section
variable {X M : Nat} {h : Hp} {s : MS} {g : GH} {B K W n m q k b wq l : Nat}
theorem nx_oI (hb : b ≤ 1200) : NX n s (oI n b wq l s) := ⟨fun v x e h1 h2 => mA_oIx _ _ (by omega) (Or.inr e), fun v x m e h1 h2 => mA_oIx _ _ (by omega) (by omega), fun v i e => by rw [lg_oI hb, if_neg (fun z => e z.1)], fun x i h1 h2 => mA_oIx _ _ (by omega) (by omega), fun _ => rfl⟩
theorem oI_n {n b w l : Nat} {s : MS} : mA (oI n b w l s) 4 n = Int32.ofNat b ∧ mA (oI n b w l s) 5 n = Int32.ofNat l ∧ mA (oI n b w l s) 6 n = Int32.ofNat b ∧ mA (oI n b w l s) 7 n = Int32.ofNat b := by
  unfold oI
  refine ⟨?_, ?_, ?_, ?_⟩
  · rw [mA_k _ _ _ _ (by decide), mA_k _ _ _ _ (by decide), mA_k _ _ _ _ (by decide), mA_k _ _ _ _ (by decide), mA_h]
  · rw [mA_k _ _ _ _ (by decide), mA_k _ _ _ _ (by decide), mA_k _ _ _ _ (by decide), mA_h]
  · rw [mA_k _ _ _ _ (by decide), mA_k _ _ _ _ (by decide), mA_h]
  · rw [mA_k _ _ _ _ (by decide), mA_h]
theorem rx_inst {r st T : Nat} {x : Nat → Nat → Int32} {h1 : Hp} (w : RX X M h s g K) (hn : n < 5) (hu : mA s 1 n = 1) (hh : h1 = sR (sI h (gq 1 2) (ndA X n + 13) (Int32.ofNat l)) (gq 1 3) (ndA X n + 13) (some r)) (e0 : x 0 = e0M) (cx : CPM g x T b) (sv : SV X M h r (Int32.ofNat b) (x b 0) (rp x b)) (hst : hR h (gq 6 0) r = some st) (hb : b ≤ 1200) (hl : l ≤ 1200) (ent : l = b ∨ (l = lsM s n ∧ bsM s n ≤ b)) : fX5_loadSnapshot (ndA X n) h1 = some ((), cLd h1 (ndA X n) st (Int32.ofNat b)) ∧ CC X n h (cLd h1 (ndA X n) st (Int32.ofNat b)) ∧ RX X M (cLd h1 (ndA X n) st (Int32.ofNat b)) (oI n b wq l s) g K := by
  obtain ⟨d1, ⟨v1, v2, v3, v4, v5, v6, v7, v8, v9, v10⟩, ⟨_, d3⟩, d4⟩ := rx_n w hn
  have hM := rx_M w
  have hz : M + 40 ≤ hZ h := w.1.2.2.2.1
  have sv' := sv
  obtain ⟨s1, s2, s3, s4, st', s5, s6, s7, s8⟩ := sv
  have est : st' = st := by rw [hst] at s5; exact (Option.some.inj s5).symm
  subst est
  have off := im_off hn hM (s6 0 (by omega)) (s6 8 (by omega))
  rw [Nat.add_zero] at off
  have c1 : Ch h h1 (PNd X n) := by rw [hh]; exact ch_trans (ch_sI (by unfold PNd; omega)) (ch_sR (by unfold PNd; omega))
  have ndz : ndA X n + 14 < hZ h := by unfold ndA; omega
  have qo : r < ndA X n + 1 ∨ ndA X n + 9 < r := by unfold IM at s1; unfold ndA; omega
  have ro : r ≠ ndA X n + 13 := by unfold IM at s1; unfold ndA; omega
  have kk : ∀ y, hK h1 y = hK h y := fun y => by rw [hh, hK_sR, hK_sI]
  have rr' : ∀ f y, (f ≠ gq 1 3 ∨ y ≠ ndA X n + 13) → hR h1 f y = hR h f y := fun f y e => by rw [hh, hR_sR, if_neg (fun z => e.elim (fun u => u z.1) (fun u => u z.2)), hR_sI]
  have r13 : hR h1 (gq 1 3) (ndA X n + 13) = some r := by rw [hh, hR_sR, if_pos ⟨rfl, rfl⟩]
  have i1 : ∀ f, f ≠ gq 1 2 → ∀ x, hI h1 f x = hI h f x := fun f hf x => by rw [hh, hI_sR, hI_sI, if_neg (fun z => hf z.1)]
  have i12 : hI h1 (gq 1 2) (ndA X n + 13) = Int32.ofNat l := by rw [hh, hI_sR, hI_sI, if_pos ⟨rfl, rfl⟩]
  have a1 : ∀ x, aI h1 x = aI h x ∧ aR h1 x = aR h x := fun x => by
    rw [hh, aI_sR', aR_sR', aI_sI', aR_sI']; exact ⟨rfl, rfl⟩
  have hzz : hZ h1 = hZ h := by rw [hh, hZ_sR, hZ_sI]
  have k5 : hK h1 (ndA X n) = some (5, 0) := (kk _).trans (q_k5 w hn)
  have wst : SW st' h1 := ⟨(kk _).trans s7.1, fun j e1 e2 => (kk _).trans (s7.2.1 j e1 e2), fun z hz => (rr' _ _ (Or.inr (by have := (s6 0 (by omega)).2; unfold ndA; omega))).trans (s7.2.2 z hz)⟩
  have wna : SW (ndA X n + 1) h1 := by
    have := q_sw w hn
    exact ⟨(kk _).trans this.1, fun j e1 e2 => (kk _).trans (this.2.1 j e1 e2), fun z hz => (rr' _ _ (Or.inr (by omega))).trans (this.2.2 z hz)⟩
  have ld : fX5_loadSnapshot (ndA X n) h1 = some ((), cLd h1 (ndA X n) st' (Int32.ofNat b)) := c_load (r := r) k5 ((rr' _ _ (Or.inl (by decide))).trans d1.2.2.1) ((rr' _ _ (Or.inl (by decide))).trans d1.2.1) ((kk _).trans (q_k1 w hn)) r13 ((kk _).trans s2) ((rr' _ _ (Or.inl (by decide))).trans s5) ((i1 _ (by decide) _).trans s3) wna wst (by omega) qo (by rw [hzz]; exact s1.1)
  have sc1 : SC (rdS st' h1) (rp x b) := sc_sa (fun j hj => c1.2 _ (s6 j hj).1 (fun z => by have := (s6 j hj).2; unfold PNd ndA at z; omega)) s8
  have c2 : Ch h (cLd h1 (ndA X n) st' (Int32.ofNat b)) (PNd X n) := ch_trans c1 ch_ld
  have fr := pn_fr c2 hn hM
  obtain ⟨o4, o5, o6, o7⟩ := oI_n (n := n) (b := b) (w := wq) (l := l) (s := s)
  have ox : ∀ y, y ≠ 13 → y ≠ 4 ∧ y ≠ 5 ∧ y ≠ 6 ∧ y ≠ 7 ∧ y ≠ 14 → ∀ j, mA (oI n b wq l s) y j = mA s y j := fun y e1 e2 j => mA_oIx _ _ e1 (Or.inl e2)
  have eb : bsM (oI n b wq l s) n = b := by unfold bsM; rw [o4, io_cl (by omega)]
  have el : lsM (oI n b wq l s) n = l := by unfold lsM; rw [o5, io_cl (by omega)]
  refine ⟨ld, cc_nd c2 hn, rx_node w hn c2 (gle_refl g) (fun _ => rfl) (nx_oI hb) ⟨ns_eq (fun y => (hK_ld _ _ _ _ _).trans (kk y)) (fun f y e => (hR_ld _ _ _ _ _ _).trans (rr' f y e)) ?_ d1, ?_, ⟨⟨r, x, T, (hR_ld _ _ _ _ _ _).trans r13, e0, ?_, ?_⟩, fun i e1 e2 => ?_⟩, fun _ => ⟨b, x, T, lw_5.2.1, ?_, ?_, cx, sc_ld off sc1, fun i e1 e2 => ?_⟩⟩⟩
  · rw [lw_i (by decide) (Or.inl rfl) (by omega), i1 _ (by decide)]
  · unfold NV
    rw [lw_5.1, lw_5.2.2, lw_i (by decide) (Or.inl rfl) (by omega), lw_i (by decide) (Or.inl rfl) (by omega), lw_i (by decide) (Or.inl rfl) (by omega), lw_i (by decide) (Or.inr rfl) (by omega), lw_i (by decide) (Or.inr rfl) (by omega), lw_i (by decide) (Or.inr rfl) (by omega), lw_i (by decide) (Or.inr rfl) (by omega), i12, i1 _ (by decide), i1 _ (by decide), i1 _ (by decide), i1 _ (by decide), i1 _ (by decide), i1 _ (by decide), (lw_a (x := ndA X n + 11) (by omega) (by omega)).1, (lw_a (x := ndA X n + 12) (by omega) (by omega)).1, (a1 _).1, (a1 _).1, o4, o5, o6, o7, ox 1 (by decide) (by decide), ox 8 (by decide) (by decide), ox 9 (by decide) (by decide), ox 2 (by decide) (by decide), ox 3 (by decide) (by decide), ox 10 (by decide) (by decide)]
    refine ⟨v1, v2, by rw [hu]; rfl, v4, fun _ => ⟨rfl, by rw [io_nl (by omega)]; trivial⟩, v6, v7, rfl, v9, fun m hm => ?_⟩
    rw [ox 11 (by decide) (by decide), ox 12 (by decide) (by decide)]; exact v10 m hm
  · rw [eb]; exact cx
  · rw [eb, o4]; exact sv_fr fr sv'
  · rw [eb] at e1; rw [el] at e2
    rw [lg_oI hb, if_neg (by omega)]
    rcases ent with z | z
    · omega
    · obtain ⟨e, f1, f2⟩ := d3 i (by omega) (by omega)
      exact ⟨e, by rw [(lw_a (x := ndA X n + 14) (by omega) (by omega)).2, (a1 _).2]; exact f1, ev_fr fr f2⟩
  · rw [eb]; exact Nat.le_refl _
  · unfold cmM; rw [ox 1 (by decide) (by decide), hu, if_neg (by decide), o6, io_cl (by omega)]; exact Nat.le_refl _
  · rw [o7, io_cl (by omega)] at e1; omega
/-- the reference copies the rows -/
theorem g_i90 {s0 : MS} {y : Int32} {b : Nat} (hn : n < 5) (hk : k < 3000) (hb : mA s0 19 k = Int32.ofNat b) (b12 : b ≤ 1200) (hw : mA s0 25 k = Int32.ofNat wq) (w60 : wq < 60) : ∀ (d i f : Nat), i + d = (b + 1) * 8 → d < f → gX10_installs_90 f (Int32.ofNat k) (Int32.ofNat n) (Int32.ofNat m) y (Int32.ofNat i) (oC 13 ((n * 1201 + 0) * 8) 24 (wq * 1201 * 8) i s0) = gX10_installs_90_body (gX10_installs_90 0) (Int32.ofNat k) (Int32.ofNat n) (Int32.ofNat m) y (Int32.ofNat ((b + 1) * 8)) (oC 13 ((n * 1201 + 0) * 8) 24 (wq * 1201 * 8) ((b + 1) * 8) s0) := by
  have x19 : ∀ i, mA (oC 13 ((n * 1201 + 0) * 8) 24 (wq * 1201 * 8) i s0) 19 k = Int32.ofNat b := fun i => by rw [mA_oCx _ _ _ _ _ _ _ (by decide)]; exact hb
  have x25 : ∀ i, mA (oC 13 ((n * 1201 + 0) * 8) 24 (wq * 1201 * 8) i s0) 25 k = Int32.ofNat wq := fun i => by rw [mA_oCx _ _ _ _ _ _ _ (by decide)]; exact hw
  intro d
  induction d with
  | zero =>
    intro i f h0 hf
    obtain ⟨f, rfl⟩ : ∃ g, f = g + 1 := ⟨f - 1, by omega⟩
    have e0 : ∀ z, gX10_installs_90 (f + 1) (Int32.ofNat k) (Int32.ofNat n) (Int32.ofNat m) y (Int32.ofNat i) z = gX10_installs_90_body (gX10_installs_90 f) (Int32.ofNat k) (Int32.ofNat n) (Int32.ofNat m) y (Int32.ofNat i) z := fun z => rfl
    rw [e0, show i = (b + 1) * 8 by omega]
    unfold gX10_installs_90_body
    have le : Int32.ofNat ((b + 1) * 8) ≤ Int32.ofNat ((b + 1) * 8) := Int32.le_refl _
    simp only [ld_19 hk, bd_some, x19, io_a1, io_m8, if_pos le]
  | succ d ih =>
    intro i f h0 hf
    obtain ⟨f, rfl⟩ : ∃ g, f = g + 1 := ⟨f - 1, by omega⟩
    have e0 : ∀ z, gX10_installs_90 (f + 1) (Int32.ofNat k) (Int32.ofNat n) (Int32.ofNat m) y (Int32.ofNat i) z = gX10_installs_90_body (gX10_installs_90 f) (Int32.ofNat k) (Int32.ofNat n) (Int32.ofNat m) y (Int32.ofNat i) z := fun z => rfl
    rw [e0]
    refine Eq.trans ?_ (ih (i + 1) f (by omega) (by omega))
    unfold gX10_installs_90_body
    rw [ld_19 hk, bd_some, x19, io_a1, io_m8, if_neg (by rw [io_le (by omega) (by omega)]; omega), show (0 : Int32) = Int32.ofNat 0 from rfl, g_at, bdm_some, ld_25 hk, bd_some, x25, io_m12, io_m8, io_ad, ld_24 (by omega), bd_some, io_ad, st_13 (by omega), bd_some, io_a1, oC_s _ _ _ _ _ _ (by decide)]
end
