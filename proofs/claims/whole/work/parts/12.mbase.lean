/-! ===== the reference as a state of its own: arrays by number (1 to 38, as its constructor makes them), ints by place ===== -/
def MS : Type := (Nat → Nat → Int32) × (Nat → Int32)
def mA (s : MS) (k i : Nat) : Int32 := s.1 k i
def mF (s : MS) (k : Nat) : Int32 := s.2 k
def uA (s : MS) (k i : Nat) (v : Int32) : MS := (up2 s.1 k i v, s.2)
def uF (s : MS) (k : Nat) (v : Int32) : MS := (s.1, up1 s.2 k v)
def lenT (k : Nat) : Nat := [0, 5, 5, 5, 5, 5, 5, 5, 5, 5, 5, 25, 25, 48040, 5, 3000, 3000, 3000, 3000, 3000, 3000, 3000, 3000, 96000, 576480, 3000, 8, 64, 64, 64, 64, 64, 9, 9, 5000, 5000, 5000, 5000, 1201].getD k 0
def tagT (k : Nat) : Nat := [0, 13, 11, 11, 11, 11, 11, 11, 11, 11, 11, 11, 11, 11, 11, 11, 11, 11, 11, 11, 11, 11, 11, 11, 11, 11, 11, 11, 11, 11, 11, 11, 13, 11, 11, 11, 11, 13, 11].getD k 0
def rdF (s : MS) (k : Nat) : Option Int32 := some (mF s k)
def wrF (s : MS) (k : Nat) (v : Int32) : Option MS := some (uF s k v)
def ldA (s : MS) (t k : Nat) (i : Int32) : Option Int32 := if tagT k = t ∧ ¬ (i < 0 ∨ lenT k ≤ i.toNatClampNeg) then some (mA s k i.toNatClampNeg) else none
def stA (s : MS) (t k : Nat) (i v : Int32) : Option MS := if tagT k = t ∧ ¬ (i < 0 ∨ lenT k ≤ i.toNatClampNeg) then some (uA s k i.toNatClampNeg v) else none
def stB (s : MS) (t k : Nat) (i v : Int32) : Option MS := if (tagT k = t ∧ ¬ (i < 0 ∨ lenT k ≤ i.toNatClampNeg)) ∧ (v = 0 ∨ v = 1) then some (uA s k i.toNatClampNeg v) else none
def bdm {α β : Type} (o : Option (α × MS)) (k : α → MS → Option β) : Option β := match o with
  | some v => k v.1 v.2
  | none => none
/-- the picture h with the reference at M in the state s -/
def pm (M : Nat) (h : Hp) (s : MS) : Hp := mkH (hK h) (fun g a => if a = M ∧ 640 ≤ g ∧ g < 704 then mF s (g - 640) else hI h g a) (hL h) (hR h) (fun a i => if M < a ∧ a ≤ M + 38 then mA s (a - M) i else aI h a i) (aL h) (aR h) (hZ h)
def fldT : List (Nat × Nat) := [(1, 1), (2, 2), (3, 3), (4, 4), (5, 5), (6, 6), (7, 7), (8, 8), (9, 9), (10, 10), (11, 11), (12, 12), (13, 13), (14, 14), (15, 15), (16, 16), (17, 17), (18, 18), (19, 19), (20, 20), (21, 21), (22, 22), (23, 23), (25, 24), (26, 25), (32, 26), (33, 27), (34, 28), (35, 29), (36, 30), (37, 31), (38, 32), (39, 33), (43, 34), (44, 35), (45, 36), (46, 37), (48, 38)]
def MW (M : Nat) (h : Hp) : Prop := hK h M = some (10, 0) ∧ (∀ k, 1 ≤ k → k ≤ 38 → hK h (M + k) = some (tagT k, lenT k)) ∧ ∀ q ∈ fldT, hR h (gq 10 q.1) M = some (M + q.2)
def lft {α : Type} (M : Nat) (h : Hp) (o : Option (α × MS)) : Option (α × Hp) := o.map (fun p => (p.1, pm M h p.2))
theorem pm_up {M : Nat} {h : Hp} {k : Nat} (hk : 1 ≤ k ∧ k ≤ 38) (s : MS) (n : Nat) (v : Int32) : tI (pm M h s) (M + k) n v = pm M h (uA s k n v) := by
  have e : up2 (aI (pm M h s)) (M + k) n v = aI (pm M h (uA s k n v)) := by
    funext a j
    show (if a = M + k ∧ j = n then v else (if M < a ∧ a ≤ M + 38 then mA s (a - M) j else aI h a j)) = (if M < a ∧ a ≤ M + 38 then (if a - M = k ∧ j = n then v else mA s (a - M) j) else aI h a j)
    by_cases h1 : a = M + k
    · subst h1
      rw [if_pos (show M < M + k ∧ M + k ≤ M + 38 from ⟨by omega, by omega⟩), if_pos (show M < M + k ∧ M + k ≤ M + 38 from ⟨by omega, by omega⟩), Nat.add_sub_cancel_left]
      by_cases h2 : j = n
      · rw [if_pos ⟨rfl, h2⟩, if_pos ⟨rfl, h2⟩]
      · rw [if_neg (fun q => h2 q.2), if_neg (fun q => h2 q.2)]
    · rw [if_neg (fun q => h1 q.1)]
      by_cases h3 : M < a ∧ a ≤ M + 38
      · rw [if_pos h3, if_pos h3, if_neg (fun q => h1 (by omega))]
      · rw [if_neg h3, if_neg h3]
  show mkH (hK h) _ (hL h) (hR h) _ (aL h) (aR h) (hZ h) = mkH (hK h) _ (hL h) (hR h) _ (aL h) (aR h) (hZ h)
  exact congrArg (fun q => mkH (hK h) (hI (pm M h s)) (hL h) (hR h) q (aL h) (aR h) (hZ h)) e
set_option maxRecDepth 100000 in
theorem pm_uf {M : Nat} {h : Hp} {f : Nat} (hf : f < 64) (s : MS) (v : Int32) : sI (pm M h s) (gq 10 f) M v = pm M h (uF s f v) := by
  have e : up2 (hI (pm M h s)) (gq 10 f) M v = hI (pm M h (uF s f v)) := by
    funext g a
    show (if g = gq 10 f ∧ a = M then v else (if a = M ∧ 640 ≤ g ∧ g < 704 then mF s (g - 640) else hI h g a)) = (if a = M ∧ 640 ≤ g ∧ g < 704 then (if g - 640 = f then v else mF s (g - 640)) else hI h g a)
    unfold gq
    by_cases h1 : a = M
    · by_cases h2 : g = 64 * 10 + f
      · rw [if_pos ⟨h2, h1⟩, if_pos ⟨h1, by omega, by omega⟩, if_pos (by omega)]
      · rw [if_neg (fun q => h2 q.1)]
        by_cases h3 : a = M ∧ 640 ≤ g ∧ g < 704
        · rw [if_pos h3, if_pos h3, if_neg (by omega)]
        · rw [if_neg h3, if_neg h3]
    · rw [if_neg (fun q => h1 q.2), if_neg (fun q => h1 q.1), if_neg (fun q => h1 q.1)]
  show mkH (hK h) _ (hL h) (hR h) _ (aL h) (aR h) (hZ h) = mkH (hK h) _ (hL h) (hR h) _ (aL h) (aR h) (hZ h)
  exact congrArg (fun q => mkH (hK h) q (hL h) (hR h) (aI (pm M h s)) (aL h) (aR h) (hZ h)) e
theorem lft_bd {α β : Type} {M : Nat} {h : Hp} (o : Option β) (k : β → Option (α × MS)) : lft M h (bd o k) = bd o (fun v => lft M h (k v)) := by cases o <;> rfl
theorem lft_bdm {α β : Type} {M : Nat} {h : Hp} (o : Option (β × MS)) (k : β → MS → Option (α × MS)) : lft M h (bdm o k) = bdm o (fun v s => lft M h (k v s)) := by cases o <;> rfl
theorem lft_ite {α : Type} {M : Nat} {h : Hp} {c : Prop} [Decidable c] (a b : Option (α × MS)) : lft M h (if c then a else b) = if c then lft M h a else lft M h b := by split <;> rfl
theorem lft_some {α : Type} {M : Nat} {h : Hp} (v : α) (s : MS) : lft M h (some (v, s)) = some (v, pm M h s) := rfl
theorem lft_none {α : Type} {M : Nat} {h : Hp} : lft M h (none : Option (α × MS)) = none := rfl
theorem bd_some {α β : Type} (v : α) (k : α → Option β) : bd (some v) k = k v := rfl
theorem onR_some {β : Type} (a : Nat) (n : Option β) (k : Nat → Option β) : onR (some a) n k = k a := rfl
theorem bd2_lft {α β : Type} {M : Nat} {h : Hp} (o : Option (α × MS)) (k : α → Hp → Option β) : bd2 (lft M h o) k = bdm o (fun v s => k v (pm M h s)) := by cases o <;> rfl
theorem pm_ld {M : Nat} {h : Hp} (hw : MW M h) (s : MS) (t k : Nat) (i : Int32) (hk : 1 ≤ k ∧ k ≤ 38) : ldI (pm M h s) t (M + k) i = ldA s t k i := by
  have h1 : hK (pm M h s) (M + k) = some (tagT k, lenT k) := hw.2.1 k hk.1 hk.2
  have h2 : aI (pm M h s) (M + k) = mA s k := by
    funext j
    show (if M < M + k ∧ M + k ≤ M + 38 then mA s (M + k - M) j else _) = _
    rw [if_pos ⟨by omega, by omega⟩, Nat.add_sub_cancel_left]
  unfold ldI ldA inB
  rw [h1, h2]
  simp only [Bool.and_eq_true, decide_eq_true_eq]
theorem pm_st {β : Type} {M : Nat} {h : Hp} (hw : MW M h) (s : MS) (t k : Nat) (i v : Int32) (hk : 1 ≤ k ∧ k ≤ 38) (K : Hp → Option β) : bd (stI (pm M h s) t (M + k) i v) K = bd (stA s t k i v) (fun s2 => K (pm M h s2)) := by
  have h1 : hK (pm M h s) (M + k) = some (tagT k, lenT k) := hw.2.1 k hk.1 hk.2
  have h2 : ∀ n, tI (pm M h s) (M + k) n v = pm M h (uA s k n v) := fun n => pm_up hk s n v
  unfold stI stA inB
  rw [h1, h2]
  simp only [Bool.and_eq_true, decide_eq_true_eq]
  split <;> rfl
theorem pm_sz {β : Type} {M : Nat} {h : Hp} (hw : MW M h) (s : MS) (t k : Nat) (i v : Int32) (hk : 1 ≤ k ∧ k ≤ 38) (K : Hp → Option β) : bd (stZ (pm M h s) t (M + k) i v) K = bd (stB s t k i v) (fun s2 => K (pm M h s2)) := by
  have h1 : hK (pm M h s) (M + k) = some (tagT k, lenT k) := hw.2.1 k hk.1 hk.2
  have h2 : ∀ n, tI (pm M h s) (M + k) n v = pm M h (uA s k n v) := fun n => pm_up hk s n v
  unfold stZ stB inB
  rw [h1, h2]
  simp only [Bool.and_eq_true, decide_eq_true_eq]
  split <;> rfl
set_option maxRecDepth 100000 in
theorem pm_gI {β : Type} {M : Nat} {h : Hp} (hw : MW M h) (s : MS) (f : Nat) (hf : f < 64) (K : Int32 → Option β) : bd (gI (pm M h s) 10 f M) K = bd (rdF s f) K := by
  have h1 : hK (pm M h s) M = some (10, 0) := hw.1
  have h2 : hI (pm M h s) (gq 10 f) M = mF s f := by
    show (if M = M ∧ 640 ≤ gq 10 f ∧ gq 10 f < 704 then mF s (gq 10 f - 640) else _) = _
    unfold gq
    rw [if_pos ⟨rfl, by omega, by omega⟩]
    rw [show 64 * 10 + f - 640 = f by omega]
  unfold gI rdF
  rw [if_pos h1, h2]
theorem pm_pI {β : Type} {M : Nat} {h : Hp} (hw : MW M h) (s : MS) (f : Nat) (v : Int32) (hf : f < 64) (K : Hp → Option β) : bd (pI (pm M h s) 10 f M v) K = bd (wrF s f v) (fun s2 => K (pm M h s2)) := by
  have h1 : hK (pm M h s) M = some (10, 0) := hw.1
  have h2 : sI (pm M h s) (gq 10 f) M v = pm M h (uF s f v) := pm_uf hf s v
  unfold pI wrF
  rw [if_pos h1, h2]
  rfl
theorem pm_kd {β : Type} {M : Nat} {h : Hp} (hw : MW M h) (s : MS) (A : Option β) : (if hK (pm M h s) M = some (10, 0) then A else none) = A := if_pos (show hK (pm M h s) M = some (10, 0) from hw.1)
theorem pm_gR {M : Nat} {h : Hp} (hw : MW M h) (s : MS) {f k : Nat} (hq : (f, k) ∈ fldT) : gR (pm M h s) 10 f M = some (some (M + k)) := by
  have h1 : hK (pm M h s) M = some (10, 0) := hw.1
  have h2 : hR (pm M h s) (gq 10 f) M = some (M + k) := hw.2.2 _ hq
  unfold gR
  rw [if_pos h1, h2]
