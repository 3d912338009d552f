section
variable {X M : Nat} {h : Hp} {s : MS} {g : GH} {B K W n : Nat}
/-- the disk of n gets the snapshot q, of COMMIT -/
theorem rx_snap {q T : Nat} {x : Nat → Nat → Int32} (w : RX X M h s g K) (mi : MI s g B K W) (hn : n < 5) (hB : B ≤ 1200) (hu : mA s 1 n = 1) (e0 : x 0 = e0M) (cx : CPM g x T (cmM s n)) (sv : SV X M h q (mA s 6 n) (x (cmM s n) 0) (rp x (cmM s n))) (hap : hI h (gq 5 10) (ndA X n) = mA s 6 n) : RX X M (sR h (gq 1 3) (ndA X n + 13) (some q)) (uA s 4 n (mA s 6 n)) g K := by
  obtain ⟨d1, ⟨v1, v2, v3, v4, v5, v6, v7, v8, v9, v10⟩, ⟨_, d3⟩, d4⟩ := rx_n w hn
  have c : Ch h (sR h (gq 1 3) (ndA X n + 13) (some q)) (PNd X n) := ch_sR (by unfold PNd; omega)
  have fr := pn_fr c hn (rx_M w)
  obtain ⟨c1, c2, c3⟩ := mi_cm mi n
  have b6 := mi_6 mi hn hu
  have lsB := mi_ls mi n
  have eb : bsM (uA s 4 n (mA s 6 n)) n = cmM s n := by unfold bsM cmM; rw [mA_h, hu, if_neg (by decide)]
  have el : lsM (uA s 4 n (mA s 6 n)) n = lsM s n := by unfold lsM; rw [mA_k _ _ _ _ (by decide)]
  have ec : cmM (uA s 4 n (mA s 6 n)) n = cmM s n := by unfold cmM; rw [mA_k (k' := 1) _ _ _ _ (by decide), mA_k (k' := 6) _ _ _ _ (by decide), hu, if_neg (by decide), if_neg (by decide)]
  refine rx_node w hn c (gle_refl g) (fun _ => rfl) (nx_uA (by decide)) ⟨ns_eq (fun y => hK_sR _ _ _ _ _) (fun f y e => by rw [hR_sR, if_neg (fun z => e.elim (fun u => u z.1) (fun u => u z.2))]) (hI_sR _ _ _ _ _ _) d1, ?_, ⟨⟨q, x, T, by rw [hR_sR, if_pos ⟨rfl, rfl⟩], e0, ?_, ?_⟩, fun i i1 i2 => ?_⟩, fun u => ?_⟩
  · unfold NV
    simp only [hI_sR]
    have xk : ∀ z j, z ≠ 4 → mA (uA s 4 n (mA s 6 n)) z j = mA s z j := fun z j hz => mA_k _ _ _ _ hz
    rw [xk 1 n (by decide), xk 8 n (by decide), xk 6 n (by decide), xk 9 n (by decide), xk 7 n (by decide), xk 2 n (by decide), xk 3 n (by decide), xk 5 n (by decide), xk 10 n (by decide), hu, if_neg (by decide)]
    rw [hu, if_neg (by decide)] at v3
    refine ⟨v1.trans hu, v2, v3, v4, fun _ => v5 hu, v6, v7, v8, v9, fun m hm => ?_⟩
    rw [mA_k _ _ _ _ (by decide), mA_k _ _ _ _ (by decide)]; exact v10 m hm
  · rw [eb]; exact cx
  · rw [eb, mA_h]; exact sv_fr fr sv
  · rw [eb] at i1; rw [el] at i2; rw [lg_uA (by decide)]
    obtain ⟨e, f1, f2⟩ := d3 i (by omega) i2
    exact ⟨e, f1, ev_fr fr f2⟩
  · obtain ⟨ap, y, T', a1, a2, a3, a4, a5, a6⟩ := d4 hu
    have eap : ap = cmM s n := by
      rw [hap, b6, io_eq (by omega) (by omega)] at a1; exact a1.symm
    refine ⟨ap, y, T', a1, ?_, ?_, a4, sc_sa (fun j hj => sa_sR (by omega)) a5, fun i i1 i2 => ?_⟩
    · rw [eb, eap]; exact Nat.le_refl _
    · rw [ec]; exact a3
    · rw [mA_k _ _ _ _ (by decide)] at i1; exact a6 i i1 i2
theorem im_ge {X M : Nat} {h : Hp} {a : Nat} (h1 : M + 40 ≤ a) (h2 : a < hZ h) : IM X M h a := ⟨h2, Or.inl h1⟩
theorem c_shrink (w : RX X M h s g K) (mi : MI s g B K W) (hn : n < 5) (hB : B ≤ 1200) (hu : mA s 1 n = 1) (hap : hI h (gq 5 10) (ndA X n) = mA s 6 n) : ∃ h', fX5_takeSnapshot (ndA X n) h = some ((), h') ∧ CC X n h h' ∧ RX X M h' (if mA s 10 n = 0 then oD n s else uA (oP n s) 4 n (mA s 6 n)) g K := by
  have hM := rx_M w
  have hz : M + 40 ≤ hZ h := w.1.2.2.2.1
  have lsB := mi_ls mi n
  obtain ⟨c1, c2, c3⟩ := mi_cm mi n
  have b6 := mi_6 mi hn hu
  have ndz : ndA X n + 14 < hZ h := by unfold ndA; omega
  obtain ⟨ap, y, T', a1, a2, a3, a4, a5, a6⟩ := (rx_n w hn).2.2.2 hu
  have eap : ap = cmM s n := by rw [hap, b6, io_eq (by omega) (by omega)] at a1; exact a1.symm
  have erp : rp y ap = rp (lgM s n) (cmM s n) := by rw [eap]; exact rp_ag _ (fun j h1 h2 => mi_safe mi a4 c3 h1 (by omega) h2)
  rw [erp] at a5
  -- the copy
  have cn := ch_nS h
  have wn := rx_new0 w cn
  have swn := sw_nS h
  have zn := z9 h
  have sca : SC (rdS (ndA X n + 1) (nS h)) (rp (lgM s n) (cmM s n)) := sc_sa (fun j hj => cn.2 _ (by omega) id) a5
  obtain ⟨h2, hh2⟩ : ∃ h2, h2 = nS h := ⟨_, rfl⟩
  rw [← hh2] at cn wn swn zn sca
  have cp := c_copy swn (q_sw wn hn) (show ndA X n + 1 ≠ hZ h by omega)
  have scz : SC (rdS (hZ h) (cpS h2 (hZ h) (ndA X n + 1))) (rp (lgM s n) (cmM s n)) := sc_copy (by omega) sca
  have swz : SW (hZ h) (cpS h2 (hZ h) (ndA X n + 1)) := sw_eq (fun a => hK_cpS _ _ _ _) (fun f a => hR_cpS _ _ _ _ _) swn
  have c5 : Ch h (cpS h2 (hZ h) (ndA X n + 1)) (fun _ => False) := ⟨Nat.le_trans cn.1 (Nat.le_of_eq (hZ_cpS _ _ _).symm), fun a ha _ => sa_trans (cn.2 a ha id) (sa_cpS (by omega) (by omega))⟩
  have z5 : hZ (cpS h2 (hZ h) (ndA X n + 1)) = hZ h + 9 := (hZ_cpS _ _ _).trans zn
  obtain ⟨h5, hh5⟩ : ∃ h5, h5 = cpS h2 (hZ h) (ndA X n + 1) := ⟨_, rfl⟩
  rw [← hh5] at cp scz swz c5 z5
  have w5 := rx_new0 w c5
  have c8 : Ch h (nO h5 6) (fun _ => False) := ch_nOn c5
  have w8 := rx_new0 w c8
  have k8 : hK (nO h5 6) (hZ h5) = some (6, 0) := by rw [hK_nO, if_pos rfl]
  have tl := c_termN w8 mi hn hB (i := cmM s n) (by omega)
  rw [if_pos ⟨c2, c1⟩] at tl
  obtain ⟨h14, hh14⟩ : ∃ h14, h14 = sI (sI (sR (nO h5 6) (gq 6 0) (hZ h5) (some (hZ h))) (gq 6 1) (hZ h5) (mA s 6 n)) (gq 6 2) (hZ h5) (lgM s n (cmM s n) 0) := ⟨_, rfl⟩
  have i6 : fX6_init (hZ h5) (hZ h) (mA s 6 n) (lgM s n (cmM s n) 0) (nO h5 6) = some ((), h14) := by
    simp only [fX6_init, pI, pR, hK_sI, hK_sR, k8, if_true, bd_some, hh14]
  have c14 : Ch h h14 (fun _ => False) := by
    rw [hh14]; exact ch_sIn (ch_sIn (ch_sRn c8 (by omega)) (by omega)) (by omega)
  have w14 := rx_new0 w c14
  have c514 : Ch h5 h14 (fun _ => False) := by
    rw [hh14]; exact ch_sIn (ch_sIn (ch_sRn ch_nO (Nat.le_refl _)) (Nat.le_refl _)) (Nat.le_refl _)
  have z14 : hZ h14 = hZ h + 10 := by rw [hh14, hZ_sI, hZ_sI, hZ_sR, hZ_nO, z5]
  have sv14 : SV X M h14 (hZ h5) (mA s 6 n) (lgM s n (cmM s n) 0) (rp (lgM s n) (cmM s n)) := by
    refine ⟨im_ge (by omega) (by omega), ?_, ?_, ?_, hZ h, ?_, fun j hj => im_ge (by omega) (by omega), sw_sa (fun j hj => c514.2 _ (by omega) id) swz, sc_sa (fun j hj => c514.2 _ (by omega) id) scz⟩
    · rw [hh14, hK_sI, hK_sI, hK_sR]; exact k8
    · rw [hh14, hI_sI, if_neg (by simp [gq]), hI_sI, if_pos ⟨rfl, rfl⟩]
    · rw [hh14, hI_sI, if_pos ⟨rfl, rfl⟩]
    · rw [hh14, hR_sI, hR_sI, hR_sR, if_pos ⟨rfl, rfl⟩]
  have sv14' := sv14
  rw [b6] at sv14'
  have rs := c_recSnap w14 mi hn hB sv14' (show cmM s n < 100000 by omega)
  rw [if_pos (show (if bsM s n ≤ cmM s n ∧ cmM s n ≤ lsM s n then lgM s n (cmM s n) 0 else -1) = lgM s n (cmM s n) 0 from if_pos ⟨c2, c1⟩)] at rs
  have red : fX5_takeSnapshot (ndA X n) h = bd2 (fX1_recordSnapshot (ndA X n + 13) (hZ h5) h14) fun z15 h15 => if hK h15 (ndA X n) = some (5, 0) then (bd2 (fX5_survives (ndA X n) z15 h15) fun z16 h16 => some ((), h16)) else none := by
    unfold fX5_takeSnapshot nwO
    rw [bd_some, c_init7, bd2_some, ← hh2, q_store wn hn, bd_some, onR_some, if_pos swn.1, cp, bd2_some, q_disk w5 hn, bd_some, onR_some, bd_some, q_comU w8 hn hu, bd_some, q_disk w8 hn, bd_some, onR_some, bd_some, if_pos (q_k1 w8 hn), b6, tl, bd2_some, ← b6, i6, bd2_some, if_pos (q_k1 w14 hn)]
  rw [red, rs]
  by_cases pw : mA s 10 n = 0
  · rw [if_pos pw, if_pos pw, bd2_some, if_pos (q_k5 w14 hn), c_fail w14 hn, bd2_some]
    exact ⟨_, rfl, cc_trans (cc_none c14) (cc_down hn rfl), rx_down w14 hn⟩
  · have wp := rx_pow w14 hn
    have mp := mi_pow n mi
    have px : ∀ x j, x ≠ 10 → mA (oP n s) x j = mA s x j := fun x j hx => mA_oP _ _ _ hx
    have frp : Fr X M h14 (cP h14 (ndA X n + 13)) := fr_ch (P := PNd X n) (ch_cP (by unfold PNd; omega)) (fun a q => by unfold PNd ndA at q; omega)
    have svp := sv_fr frp sv14
    have ap14 : hI (cP h14 (ndA X n + 13)) (gq 5 10) (ndA X n) = mA (oP n s) 6 n := by
      have e1 : hI (cP h14 (ndA X n + 13)) (gq 5 10) (ndA X n) = hI h14 (gq 5 10) (ndA X n) := by
        unfold cP; split
        · rfl
        · rw [hI_sI, if_neg (by simp [gq])]
      rw [e1, (c14.2 (ndA X n) (by omega) id).2.1, hap, px 6 n (by decide)]
    have wf := rx_snap (q := hZ h5) (x := lgM s n) (T := tmM s n) wp mp hn hB (by rw [px 1 n (by decide)]; exact hu) (rm_0 mi.1 n) (by rw [oP_cm]; exact c3) (by rw [oP_cm, px 6 n (by decide)]; exact svp) ap14
    have k5f : hK (sR (cP h14 (ndA X n + 13)) (gq 1 3) (ndA X n + 13) (some (hZ h5))) (ndA X n) = some (5, 0) := q_k5 wf hn
    rw [if_neg pw, if_neg pw, bd2_some, if_pos k5f, c_ok, bd2_some]
    rw [px 6 n (by decide)] at wf
    exact ⟨_, rfl, cc_trans (cc_none c14) (cc_nd (ch_trans (ch_cP (by unfold PNd; omega)) (ch_sR (by unfold PNd; omega))) hn), wf⟩
end
