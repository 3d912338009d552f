/-! ===== a Store as a state of its own: arrays by number (1 to 8, as its constructor makes them), fields by place ===== -/
def SS : Type := (Nat → Nat → Int32) × (Nat → Int32) × (Nat → Nat → Int64) × (Nat → Int64)
def tA (s : SS) (k i : Nat) : Int32 := s.1 k i
def tF (s : SS) (k : Nat) : Int32 := s.2.1 k
def tK (s : SS) (k i : Nat) : Int64 := s.2.2.1 k i
def tG (s : SS) (k : Nat) : Int64 := s.2.2.2 k
def vA (s : SS) (k i : Nat) (v : Int32) : SS := (up2 s.1 k i v, s.2)
def vF (s : SS) (k : Nat) (v : Int32) : SS := (s.1, up1 s.2.1 k v, s.2.2)
def vK (s : SS) (k i : Nat) (v : Int64) : SS := (s.1, s.2.1, up2 s.2.2.1 k i v, s.2.2.2)
def vG (s : SS) (k : Nat) (v : Int64) : SS := (s.1, s.2.1, s.2.2.1, up1 s.2.2.2 k v)
def vW (s : SS) (k : Nat) (f : Nat → Int64) : SS := (s.1, s.2.1, up1 s.2.2.1 k f, s.2.2.2)
def len7 (k : Nat) : Nat := [0, 464, 64, 64, 64, 64, 64, 64, 9].getD k 0
def tag7 (k : Nat) : Nat := [0, 12, 11, 11, 11, 11, 11, 11, 11].getD k 0
def rd7 (s : SS) (k : Nat) : Option Int32 := some (tF s k)
def wr7 (s : SS) (k : Nat) (v : Int32) : Option SS := some (vF s k v)
def rl7 (s : SS) (k : Nat) : Option Int64 := some (tG s k)
def wl7 (s : SS) (k : Nat) (v : Int64) : Option SS := some (vG s k v)
def ok7 (t k : Nat) (i : Int32) : Prop := tag7 k = t ∧ ¬ (i < 0 ∨ len7 k ≤ i.toNatClampNeg)
def ld7 (s : SS) (t k : Nat) (i : Int32) : Option Int32 := if tag7 k = t ∧ ¬ (i < 0 ∨ len7 k ≤ i.toNatClampNeg) then some (tA s k i.toNatClampNeg) else none
def st7 (s : SS) (t k : Nat) (i v : Int32) : Option SS := if tag7 k = t ∧ ¬ (i < 0 ∨ len7 k ≤ i.toNatClampNeg) then some (vA s k i.toNatClampNeg v) else none
def lk7 (s : SS) (t k : Nat) (i : Int32) : Option Int64 := if tag7 k = t ∧ ¬ (i < 0 ∨ len7 k ≤ i.toNatClampNeg) then some (tK s k i.toNatClampNeg) else none
def sk7 (s : SS) (t k : Nat) (i : Int32) (v : Int64) : Option SS := if tag7 k = t ∧ ¬ (i < 0 ∨ len7 k ≤ i.toNatClampNeg) then some (vK s k i.toNatClampNeg v) else none
def cp7 (s : SS) (t k0 k1 : Nat) (sp dp n : Int32) : Option SS := if tag7 k0 = t ∧ tag7 k1 = t ∧ ¬ sp < 0 ∧ ¬ dp < 0 ∧ ¬ n < 0 ∧ sp.toNatClampNeg + n.toNatClampNeg ≤ len7 k0 ∧ dp.toNatClampNeg + n.toNatClampNeg ≤ len7 k1 then some (vW s k1 (va_cpy (tK s k0) (tK s k1) sp.toNatClampNeg dp.toNatClampNeg n.toNatClampNeg)) else none
def bd7 {α β : Type} (o : Option (α × SS)) (k : α → SS → Option β) : Option β := match o with
  | some v => k v.1 v.2
  | none => none
/-- the picture h with the Store at M in the state s -/
def ps (M : Nat) (h : Hp) (s : SS) : Hp := mkH (hK h) (fun g a => if a = M ∧ 448 ≤ g ∧ g < 512 then tF s (g - 448) else hI h g a) (fun g a => if a = M ∧ 448 ≤ g ∧ g < 512 then tG s (g - 448) else hL h g a) (hR h) (fun a i => if M < a ∧ a ≤ M + 8 then tA s (a - M) i else aI h a i) (fun a i => if M < a ∧ a ≤ M + 8 then tK s (a - M) i else aL h a i) (aR h) (hZ h)
def fld7 : List (Nat × Nat) := [(2, 1), (5, 2), (6, 3), (7, 4), (8, 5), (9, 6), (11, 7), (13, 8)]
def SW (M : Nat) (h : Hp) : Prop := hK h M = some (7, 0) ∧ (∀ k, 1 ≤ k → k ≤ 8 → hK h (M + k) = some (tag7 k, len7 k)) ∧ ∀ q ∈ fld7, hR h (gq 7 q.1) M = some (M + q.2)
def lf7 {α : Type} (M : Nat) (h : Hp) (o : Option (α × SS)) : Option (α × Hp) := o.map (fun p => (p.1, ps M h p.2))
theorem lf7_bd {α β : Type} {M : Nat} {h : Hp} (o : Option β) (k : β → Option (α × SS)) : lf7 M h (bd o k) = bd o (fun v => lf7 M h (k v)) := by cases o <;> rfl
theorem lf7_bd7 {α β : Type} {M : Nat} {h : Hp} (o : Option (β × SS)) (k : β → SS → Option (α × SS)) : lf7 M h (bd7 o k) = bd7 o (fun v s => lf7 M h (k v s)) := by cases o <;> rfl
theorem lf7_ite {α : Type} {M : Nat} {h : Hp} {c : Prop} [Decidable c] (a b : Option (α × SS)) : lf7 M h (if c then a else b) = if c then lf7 M h a else lf7 M h b := by split <;> rfl
theorem lf7_some {α : Type} {M : Nat} {h : Hp} (v : α) (s : SS) : lf7 M h (some (v, s)) = some (v, ps M h s) := rfl
theorem lf7_none {α : Type} {M : Nat} {h : Hp} : lf7 M h (none : Option (α × SS)) = none := rfl
theorem bd2_lf7 {α β : Type} {M : Nat} {h : Hp} (o : Option (α × SS)) (k : α → Hp → Option β) : bd2 (lf7 M h o) k = bd7 o (fun v s => k v (ps M h s)) := by cases o <;> rfl
theorem rg_up {α : Type} (M N k n : Nat) (hk : 1 ≤ k ∧ k ≤ N) (f g : Nat → Nat → α) (v : α) : up2 (fun a i => if M < a ∧ a ≤ M + N then f (a - M) i else g a i) (M + k) n v = fun a i => if M < a ∧ a ≤ M + N then up2 f k n v (a - M) i else g a i := by
  funext a j
  show (if a = M + k ∧ j = n then v else (if M < a ∧ a ≤ M + N then f (a - M) j else g a j)) = (if M < a ∧ a ≤ M + N then (if a - M = k ∧ j = n then v else f (a - M) j) else g a j)
  by_cases h1 : a = M + k
  · subst h1
    rw [if_pos (show M < M + k ∧ M + k ≤ M + N from ⟨by omega, by omega⟩), if_pos (show M < M + k ∧ M + k ≤ M + N from ⟨by omega, by omega⟩), Nat.add_sub_cancel_left]
    by_cases h2 : j = n
    · rw [if_pos ⟨rfl, h2⟩, if_pos ⟨rfl, h2⟩]
    · rw [if_neg (fun q => h2 q.2), if_neg (fun q => h2 q.2)]
  · rw [if_neg (fun q => h1 q.1)]
    by_cases h3 : M < a ∧ a ≤ M + N
    · rw [if_pos h3, if_pos h3, if_neg (fun q => h1 (by omega))]
    · rw [if_neg h3, if_neg h3]
theorem rg_wh {α : Type} (M N k : Nat) (hk : 1 ≤ k ∧ k ≤ N) (f g : Nat → Nat → α) (v : Nat → α) : up1 (fun a i => if M < a ∧ a ≤ M + N then f (a - M) i else g a i) (M + k) v = fun a i => if M < a ∧ a ≤ M + N then up1 f k v (a - M) i else g a i := by
  funext a j
  by_cases h1 : a = M + k
  · subst h1
    show (if M + k = M + k then v else _) j = if M < M + k ∧ M + k ≤ M + N then (if M + k - M = k then v else f (M + k - M)) j else g (M + k) j
    rw [if_pos rfl, if_pos ⟨by omega, by omega⟩, if_pos (by omega)]
  · show (if a = M + k then v else fun i => if M < a ∧ a ≤ M + N then f (a - M) i else g a i) j = if M < a ∧ a ≤ M + N then (if a - M = k then v else f (a - M)) j else g a j
    rw [if_neg h1]
    by_cases h3 : M < a ∧ a ≤ M + N
    · rw [if_pos h3, if_neg (show ¬ a - M = k by omega)]; rw [if_pos h3]
    · rw [if_neg h3, if_neg h3]
theorem rg_rd {α : Type} (M N k : Nat) (hk : 1 ≤ k ∧ k ≤ N) (f g : Nat → Nat → α) : (fun i => if M < M + k ∧ M + k ≤ M + N then f (M + k - M) i else g (M + k) i) = f k := by
  funext j
  rw [if_pos ⟨by omega, by omega⟩, Nat.add_sub_cancel_left]
set_option maxRecDepth 100000 in
theorem fg_up {α : Type} (M lo f : Nat) (hf : f < 64) (F : Nat → α) (G : Nat → Nat → α) (v : α) : up2 (fun g a => if a = M ∧ lo ≤ g ∧ g < lo + 64 then F (g - lo) else G g a) (lo + f) M v = fun g a => if a = M ∧ lo ≤ g ∧ g < lo + 64 then up1 F f v (g - lo) else G g a := by
  funext g a
  show (if g = lo + f ∧ a = M then v else (if a = M ∧ lo ≤ g ∧ g < lo + 64 then F (g - lo) else G g a)) = (if a = M ∧ lo ≤ g ∧ g < lo + 64 then (if g - lo = f then v else F (g - lo)) else G g a)
  by_cases h1 : a = M
  · by_cases h2 : g = lo + f
    · rw [if_pos ⟨h2, h1⟩, if_pos ⟨h1, by omega, by omega⟩, if_pos (by omega)]
    · rw [if_neg (fun q => h2 q.1)]
      by_cases h3 : a = M ∧ lo ≤ g ∧ g < lo + 64
      · rw [if_pos h3, if_pos h3, if_neg (by omega)]
      · rw [if_neg h3, if_neg h3]
  · rw [if_neg (fun q => h1 q.2), if_neg (fun q => h1 q.1), if_neg (fun q => h1 q.1)]
theorem fg_rd {α : Type} (M lo f : Nat) (hf : f < 64) (F : Nat → α) (G : Nat → Nat → α) : (if M = M ∧ lo ≤ lo + f ∧ lo + f < lo + 64 then F (lo + f - lo) else G (lo + f) M) = F f := by
  rw [if_pos ⟨rfl, by omega, by omega⟩, Nat.add_sub_cancel_left]
theorem ps_uA {M : Nat} {h : Hp} {k : Nat} (hk : 1 ≤ k ∧ k ≤ 8) (s : SS) (n : Nat) (v : Int32) : tI (ps M h s) (M + k) n v = ps M h (vA s k n v) := congrArg (fun q => mkH (hK h) (hI (ps M h s)) (hL (ps M h s)) (hR h) q (aL (ps M h s)) (aR h) (hZ h)) (rg_up M 8 k n hk (tA s) (aI h) v)
theorem ps_uK {M : Nat} {h : Hp} {k : Nat} (hk : 1 ≤ k ∧ k ≤ 8) (s : SS) (n : Nat) (v : Int64) : tL (ps M h s) (M + k) n v = ps M h (vK s k n v) := congrArg (fun q => mkH (hK h) (hI (ps M h s)) (hL (ps M h s)) (hR h) (aI (ps M h s)) q (aR h) (hZ h)) (rg_up M 8 k n hk (tK s) (aL h) v)
theorem ps_uW {M : Nat} {h : Hp} {k : Nat} (hk : 1 ≤ k ∧ k ≤ 8) (s : SS) (f : Nat → Int64) : wL (ps M h s) (M + k) f = ps M h (vW s k f) := congrArg (fun q => mkH (hK h) (hI (ps M h s)) (hL (ps M h s)) (hR h) (aI (ps M h s)) q (aR h) (hZ h)) (rg_wh M 8 k hk (tK s) (aL h) f)
set_option maxRecDepth 100000 in
theorem ps_uF {M : Nat} {h : Hp} {f : Nat} (hf : f < 64) (s : SS) (v : Int32) : sI (ps M h s) (gq 7 f) M v = ps M h (vF s f v) := congrArg (fun q => mkH (hK h) q (hL (ps M h s)) (hR h) (aI (ps M h s)) (aL (ps M h s)) (aR h) (hZ h)) (fg_up M 448 f hf (tF s) (hI h) v)
set_option maxRecDepth 100000 in
theorem ps_uG {M : Nat} {h : Hp} {f : Nat} (hf : f < 64) (s : SS) (v : Int64) : sL (ps M h s) (gq 7 f) M v = ps M h (vG s f v) := congrArg (fun q => mkH (hK h) (hI (ps M h s)) q (hR h) (aI (ps M h s)) (aL (ps M h s)) (aR h) (hZ h)) (fg_up M 448 f hf (tG s) (hL h) v)
theorem ps_rA {M : Nat} {h : Hp} {k : Nat} (hk : 1 ≤ k ∧ k ≤ 8) (s : SS) : aI (ps M h s) (M + k) = tA s k := rg_rd M 8 k hk (tA s) (aI h)
theorem ps_rK {M : Nat} {h : Hp} {k : Nat} (hk : 1 ≤ k ∧ k ≤ 8) (s : SS) : aL (ps M h s) (M + k) = tK s k := rg_rd M 8 k hk (tK s) (aL h)
set_option maxRecDepth 100000 in
theorem ps_rF {M : Nat} {h : Hp} {f : Nat} (hf : f < 64) (s : SS) : hI (ps M h s) (gq 7 f) M = tF s f := fg_rd M 448 f hf (tF s) (hI h)
set_option maxRecDepth 100000 in
theorem ps_rG {M : Nat} {h : Hp} {f : Nat} (hf : f < 64) (s : SS) : hL (ps M h s) (gq 7 f) M = tG s f := fg_rd M 448 f hf (tG s) (hL h)
theorem ps_ld {M : Nat} {h : Hp} (hw : SW M h) (s : SS) (t k : Nat) (i : Int32) (hk : 1 ≤ k ∧ k ≤ 8) : ldI (ps M h s) t (M + k) i = ld7 s t k i := by
  have h1 : hK (ps M h s) (M + k) = some (tag7 k, len7 k) := hw.2.1 k hk.1 hk.2
  unfold ldI ld7 inB
  rw [h1, ps_rA hk]
  simp only [Bool.and_eq_true, decide_eq_true_eq]
theorem ps_lk {M : Nat} {h : Hp} (hw : SW M h) (s : SS) (t k : Nat) (i : Int32) (hk : 1 ≤ k ∧ k ≤ 8) : ldL (ps M h s) t (M + k) i = lk7 s t k i := by
  have h1 : hK (ps M h s) (M + k) = some (tag7 k, len7 k) := hw.2.1 k hk.1 hk.2
  unfold ldL lk7 inB
  rw [h1, ps_rK hk]
  simp only [Bool.and_eq_true, decide_eq_true_eq]
theorem ps_st {β : Type} {M : Nat} {h : Hp} (hw : SW M h) (s : SS) (t k : Nat) (i v : Int32) (hk : 1 ≤ k ∧ k ≤ 8) (K : Hp → Option β) : bd (stI (ps M h s) t (M + k) i v) K = bd (st7 s t k i v) (fun s2 => K (ps M h s2)) := by
  have h1 : hK (ps M h s) (M + k) = some (tag7 k, len7 k) := hw.2.1 k hk.1 hk.2
  unfold stI st7 inB
  rw [h1, ps_uA hk]
  simp only [Bool.and_eq_true, decide_eq_true_eq]
  split <;> rfl
theorem ps_sk {β : Type} {M : Nat} {h : Hp} (hw : SW M h) (s : SS) (t k : Nat) (i : Int32) (v : Int64) (hk : 1 ≤ k ∧ k ≤ 8) (K : Hp → Option β) : bd (stL (ps M h s) t (M + k) i v) K = bd (sk7 s t k i v) (fun s2 => K (ps M h s2)) := by
  have h1 : hK (ps M h s) (M + k) = some (tag7 k, len7 k) := hw.2.1 k hk.1 hk.2
  unfold stL sk7 inB
  rw [h1, ps_uK hk]
  simp only [Bool.and_eq_true, decide_eq_true_eq]
  split <;> rfl
theorem ps_cp {β : Type} {M : Nat} {h : Hp} (hw : SW M h) (s : SS) (t k0 k1 : Nat) (sp dp n : Int32) (hk : (1 ≤ k0 ∧ k0 ≤ 8) ∧ 1 ≤ k1 ∧ k1 ≤ 8) (K : Hp → Option β) : bd (cpL (ps M h s) t (M + k0) (M + k1) sp dp n) K = bd (cp7 s t k0 k1 sp dp n) (fun s2 => K (ps M h s2)) := by
  have h1 : hK (ps M h s) (M + k0) = some (tag7 k0, len7 k0) := hw.2.1 k0 hk.1.1 hk.1.2
  have h2 : hK (ps M h s) (M + k1) = some (tag7 k1, len7 k1) := hw.2.1 k1 hk.2.1 hk.2.2
  unfold cpL cp7 cpOk
  rw [h1, h2, ps_rK hk.1, ps_rK hk.2, ps_uW hk.2]
  simp only [decide_eq_true_eq]
  split <;> rfl
theorem ps_gI {β : Type} {M : Nat} {h : Hp} (hw : SW M h) (s : SS) (f : Nat) (hf : f < 64) (K : Int32 → Option β) : bd (gI (ps M h s) 7 f M) K = bd (rd7 s f) K := by
  unfold gI rd7
  rw [if_pos (show hK (ps M h s) M = some (7, 0) from hw.1), ps_rF hf]
theorem ps_gL {β : Type} {M : Nat} {h : Hp} (hw : SW M h) (s : SS) (f : Nat) (hf : f < 64) (K : Int64 → Option β) : bd (gL (ps M h s) 7 f M) K = bd (rl7 s f) K := by
  unfold gL rl7
  rw [if_pos (show hK (ps M h s) M = some (7, 0) from hw.1), ps_rG hf]
theorem ps_pI {β : Type} {M : Nat} {h : Hp} (hw : SW M h) (s : SS) (f : Nat) (v : Int32) (hf : f < 64) (K : Hp → Option β) : bd (pI (ps M h s) 7 f M v) K = bd (wr7 s f v) (fun s2 => K (ps M h s2)) := by
  unfold pI wr7
  rw [if_pos (show hK (ps M h s) M = some (7, 0) from hw.1), ps_uF hf]
  rfl
theorem ps_pL {β : Type} {M : Nat} {h : Hp} (hw : SW M h) (s : SS) (f : Nat) (v : Int64) (hf : f < 64) (K : Hp → Option β) : bd (pL (ps M h s) 7 f M v) K = bd (wl7 s f v) (fun s2 => K (ps M h s2)) := by
  unfold pL wl7
  rw [if_pos (show hK (ps M h s) M = some (7, 0) from hw.1), ps_uG hf]
  rfl
theorem ps_kd {β : Type} {M : Nat} {h : Hp} (hw : SW M h) (s : SS) (A : Option β) : (if hK (ps M h s) M = some (7, 0) then A else none) = A := if_pos (show hK (ps M h s) M = some (7, 0) from hw.1)
theorem ps_gR {M : Nat} {h : Hp} (hw : SW M h) (s : SS) {f k : Nat} (hq : (f, k) ∈ fld7) : gR (ps M h s) 7 f M = some (some (M + k)) := by
  have h2 : hR (ps M h s) (gq 7 f) M = some (M + k) := hw.2.2 _ hq
  unfold gR
  rw [if_pos (show hK (ps M h s) M = some (7, 0) from hw.1), h2]
