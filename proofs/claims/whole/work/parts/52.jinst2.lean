section
variable {X M : Nat} {h : Hp} {s : MS} {g : GH} {B K W n m q k b wq : Nat}
theorem c_recSnap {r : Nat} {t : Int32} {p : MS} (w : RX X M h s g K) (mi : MI s g B K W) (hn : n < 5) (hB : B ≤ 1200) (sv : SV X M h r (Int32.ofNat b) t p) (hb : b < 100000) : fX1_recordSnapshot (ndA X n + 13) r h = if mA s 10 n = 0 then some (0, h) else some (1, sR (if (if bsM s n ≤ b ∧ b ≤ lsM s n then lgM s n b 0 else -1) = t then cP h (ndA X n + 13) else sI (cP h (ndA X n + 13)) (gq 1 2) (ndA X n + 13) (Int32.ofNat b)) (gq 1 3) (ndA X n + 13) (some r)) := by
  have w2 := rx_pow w hn
  have m2 := mi_pow n mi
  have fr : Fr X M h (cP h (ndA X n + 13)) := fr_ch (P := PNd X n) (ch_cP (by unfold PNd; omega)) (fun a q => by have := rx_M w; unfold PNd ndA at q; omega)
  have sv2 := sv_fr fr sv
  have tt := c_termN w2 m2 hn hB hb
  rw [oP_bs, oP_ls, oP_lg] at tt
  unfold fX1_recordSnapshot
  rw [if_pos (q_k1 w hn), c_power w hn]
  by_cases z : mA s 10 n = 0
  · rw [if_pos z, if_pos z, bd2_some, if_neg (by decide)]
  · rw [if_neg z, if_neg z, bd2_some, if_pos rfl, sv_b sv2, bd_some, if_pos (q_k1 w2 hn), tt, bd2_some, sv_t sv2, bd_some]
    by_cases y : (if bsM s n ≤ b ∧ b ≤ lsM s n then lgM s n b 0 else -1) = t
    · rw [if_pos y, if_pos y, pR_k (q_k1 w2 hn), bd_some]
    · rw [if_neg y, if_neg y, sv_b sv2, bd_some, pI_k (q_k1 w2 hn), bd_some, pR_k ((hK_sI _ _ _ _ _).trans (q_k1 w2 hn)), bd_some]
theorem g_inst {y : Int32} (hn : n < 5) (hk : k < 3000) (hb : mA s 19 k = Int32.ofNat b) (b12 : b ≤ 1200) (hw : mA s 25 k = Int32.ofNat wq) (w60 : wq < 60) {l : Nat} (hl : (y = 0 ∧ l = b) ∨ (y = 1 ∧ mA s 5 n = Int32.ofNat l)) : gX10_installs_85 (Int32.ofNat k) (Int32.ofNat n) (Int32.ofNat m) y s = bdm (gX10_answer (3 : Int32) (Int32.ofNat n) (Int32.ofNat m) (Int32.ofNat b) (oI n b wq l s)) fun _ s8 => some ((), s8) := by
  unfold gX10_installs_85
  have e := g_i90 (m := m) (y := y) hn hk hb b12 hw w60 ((b + 1) * 8) 0 LF (by omega) (LF_lt (by omega))
  rw [oC_0] at e
  rw [show (0 : Int32) = Int32.ofNat 0 from rfl, e]
  have x : ∀ z i, z ≠ 13 → mA (oC 13 ((n * 1201 + 0) * 8) 24 (wq * 1201 * 8) ((b + 1) * 8) s) z i = mA s z i := fun z i hz => mA_oCx _ _ _ _ _ _ _ hz
  unfold gX10_installs_90_body gX10_installs_176 oI
  have le : Int32.ofNat ((b + 1) * 8) ≤ Int32.ofNat ((b + 1) * 8) := Int32.le_refl _
  have x5 := x 5 n (by decide)
  have x14 := x 14 n (by decide)
  have x19 := x 19 k (by decide)
  generalize oC 13 ((n * 1201 + 0) * 8) 24 (wq * 1201 * 8) ((b + 1) * 8) s = s1 at *
  rw [← x14]
  rcases hl with ⟨h1, h2⟩ | ⟨h1, h2⟩
  · subst h1 h2
    simp only [ld_19 hk, bd_some, x19, hb, io_a1, io_m8, if_pos le, st_4 hn, if_true, mA_k s1 (k' := 19) _ _ _ (show 19 ≠ 4 by decide), st_5 hn, mA_k (uA s1 4 n (Int32.ofNat l)) (k' := 19) _ _ _ (show 19 ≠ 5 by decide), st_6 hn, mA_k (uA (uA s1 4 n (Int32.ofNat l)) 5 n (Int32.ofNat l)) (k' := 19) _ _ _ (show 19 ≠ 6 by decide), st_7 hn, ld_14 hn, st_14 hn]
    rw [mA_k _ _ _ _ (by decide), mA_k _ _ _ _ (by decide), mA_k _ _ _ _ (by decide), mA_k _ _ _ _ (by decide)]
    rw [mA_k _ _ _ _ (by decide), mA_k _ _ _ _ (by decide), mA_k _ _ _ _ (by decide), mA_k _ _ _ _ (by decide), mA_k _ _ _ _ (by decide), x19, hb]
  · subst h1
    have u : uA (uA s1 4 n (Int32.ofNat b)) 5 n (Int32.ofNat l) = uA s1 4 n (Int32.ofNat b) := by
      have := uA_id (uA s1 4 n (Int32.ofNat b)) 5 n
      rw [mA_k _ _ _ _ (by decide), x5, h2] at this; exact this
    rw [u]
    simp only [ld_19 hk, bd_some, x19, hb, io_a1, io_m8, if_pos le, st_4 hn, mA_k s1 (k' := 19) _ _ _ (show 19 ≠ 4 by decide), st_6 hn, mA_k (uA s1 4 n (Int32.ofNat b)) (k' := 19) _ _ _ (show 19 ≠ 6 by decide), st_7 hn, ld_14 hn, st_14 hn]
    rw [if_neg (show ¬ (1 : Int32) = 0 by decide)]
    rw [mA_k _ _ _ _ (by decide), mA_k _ _ _ _ (by decide), mA_k _ _ _ _ (by decide)]
    rw [mA_k _ _ _ _ (by decide), mA_k _ _ _ _ (by decide), mA_k _ _ _ _ (by decide), mA_k _ _ _ _ (by decide), x19, hb]
end
