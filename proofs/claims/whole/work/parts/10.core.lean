/-! ===== an abstract heap: kinds, fields by (64 * class + place, address), arrays by (address, place), the next address ===== -/
def Hp : Type := (Nat → Option (Nat × Nat)) × (Nat → Nat → Int32) × (Nat → Nat → Int64) × (Nat → Nat → Option Nat) × (Nat → Nat → Int32) × (Nat → Nat → Int64) × (Nat → Nat → Option Nat) × Nat
def hK (h : Hp) : Nat → Option (Nat × Nat) := h.1
def hI (h : Hp) : Nat → Nat → Int32 := h.2.1
def hL (h : Hp) : Nat → Nat → Int64 := h.2.2.1
def hR (h : Hp) : Nat → Nat → Option Nat := h.2.2.2.1
def aI (h : Hp) : Nat → Nat → Int32 := h.2.2.2.2.1
def aL (h : Hp) : Nat → Nat → Int64 := h.2.2.2.2.2.1
def aR (h : Hp) : Nat → Nat → Option Nat := h.2.2.2.2.2.2.1
def hZ (h : Hp) : Nat := h.2.2.2.2.2.2.2
def mkH (k : Nat → Option (Nat × Nat)) (i : Nat → Nat → Int32) (l : Nat → Nat → Int64) (r : Nat → Nat → Option Nat) (ai : Nat → Nat → Int32) (al : Nat → Nat → Int64) (ar : Nat → Nat → Option Nat) (z : Nat) : Hp := (k, i, l, r, ai, al, ar, z)
def up2 {α : Type} (f : Nat → Nat → α) (x y : Nat) (v : α) : Nat → Nat → α := fun a b => if a = x ∧ b = y then v else f a b
def rsF {α : Type} (f : Nat → Nat → α) (z : Nat) (d : α) : Nat → Nat → α := fun g a => if a = z then d else f g a
def rsA {α : Type} (f : Nat → Nat → α) (z : Nat) (d : α) : Nat → Nat → α := fun a i => if a = z then d else f a i
def up1 {α : Type} (f : Nat → α) (x : Nat) (v : α) : Nat → α := fun a => if a = x then v else f a
def sI (h : Hp) (g a : Nat) (v : Int32) : Hp := mkH (hK h) (up2 (hI h) g a v) (hL h) (hR h) (aI h) (aL h) (aR h) (hZ h)
def sL (h : Hp) (g a : Nat) (v : Int64) : Hp := mkH (hK h) (hI h) (up2 (hL h) g a v) (hR h) (aI h) (aL h) (aR h) (hZ h)
def sR (h : Hp) (g a : Nat) (v : Option Nat) : Hp := mkH (hK h) (hI h) (hL h) (up2 (hR h) g a v) (aI h) (aL h) (aR h) (hZ h)
def tI (h : Hp) (a i : Nat) (v : Int32) : Hp := mkH (hK h) (hI h) (hL h) (hR h) (up2 (aI h) a i v) (aL h) (aR h) (hZ h)
def tL (h : Hp) (a i : Nat) (v : Int64) : Hp := mkH (hK h) (hI h) (hL h) (hR h) (aI h) (up2 (aL h) a i v) (aR h) (hZ h)
def tR (h : Hp) (a i : Nat) (v : Option Nat) : Hp := mkH (hK h) (hI h) (hL h) (hR h) (aI h) (aL h) (up2 (aR h) a i v) (hZ h)
/-- a row replaced as a whole -/
def wI (h : Hp) (a : Nat) (f : Nat → Int32) : Hp := mkH (hK h) (hI h) (hL h) (hR h) (up1 (aI h) a f) (aL h) (aR h) (hZ h)
def wL (h : Hp) (a : Nat) (f : Nat → Int64) : Hp := mkH (hK h) (hI h) (hL h) (hR h) (aI h) (up1 (aL h) a f) (aR h) (hZ h)
/-- a new object of class ci, at the next address; a new array of kind t with n places -/
def nO (h : Hp) (ci : Nat) : Hp := mkH (up1 (hK h) (hZ h) (some (ci, 0))) (rsF (hI h) (hZ h) 0) (rsF (hL h) (hZ h) 0) (rsF (hR h) (hZ h) none) (aI h) (aL h) (aR h) (hZ h + 1)
def nA (h : Hp) (t n : Nat) : Hp := mkH (up1 (hK h) (hZ h) (some (t, n))) (hI h) (hL h) (hR h) (rsA (aI h) (hZ h) 0) (rsA (aL h) (hZ h) 0) (rsA (aR h) (hZ h) none) (hZ h + 1)
/-- some more cells that nobody asks for -/
def zH (h : Hp) (z : Nat) : Hp := mkH (hK h) (hI h) (hL h) (hR h) (aI h) (aL h) (aR h) z
def gq (ci k : Nat) : Nat := 64 * ci + k
/-! what an instruction does to it: none where the machine itself would throw -/
def gI (h : Hp) (ci k a : Nat) : Option Int32 := if hK h a = some (ci, 0) then some (hI h (gq ci k) a) else none
def gL (h : Hp) (ci k a : Nat) : Option Int64 := if hK h a = some (ci, 0) then some (hL h (gq ci k) a) else none
def gR (h : Hp) (ci k a : Nat) : Option (Option Nat) := if hK h a = some (ci, 0) then some (hR h (gq ci k) a) else none
def pI (h : Hp) (ci k a : Nat) (v : Int32) : Option Hp := if hK h a = some (ci, 0) then some (sI h (gq ci k) a v) else none
def pZ (h : Hp) (ci k a : Nat) (v : Int32) : Option Hp := if hK h a = some (ci, 0) ∧ (v = 0 ∨ v = 1) then some (sI h (gq ci k) a v) else none
def pL (h : Hp) (ci k a : Nat) (v : Int64) : Option Hp := if hK h a = some (ci, 0) then some (sL h (gq ci k) a v) else none
def pR (h : Hp) (ci k a : Nat) (v : Option Nat) : Option Hp := if hK h a = some (ci, 0) then some (sR h (gq ci k) a v) else none
/-- the place i lies in the array at a, of kind t -/
def inA (h : Hp) (t a : Nat) (i : Int32) : Prop := ∃ n, hK h a = some (t, n) ∧ ¬ (i < 0 ∨ n ≤ i.toNatClampNeg)
def inB (h : Hp) (t a : Nat) (i : Int32) : Bool := match hK h a with
  | some k => decide (k.1 = t) && decide (¬ (i < 0 ∨ k.2 ≤ i.toNatClampNeg))
  | none => false
def ldI (h : Hp) (t a : Nat) (i : Int32) : Option Int32 := if inB h t a i = true then some (aI h a i.toNatClampNeg) else none
def ldL (h : Hp) (t a : Nat) (i : Int32) : Option Int64 := if inB h t a i = true then some (aL h a i.toNatClampNeg) else none
def ldR (h : Hp) (t a : Nat) (i : Int32) : Option (Option Nat) := if inB h t a i = true then some (aR h a i.toNatClampNeg) else none
def stI (h : Hp) (t a : Nat) (i v : Int32) : Option Hp := if inB h t a i = true then some (tI h a i.toNatClampNeg v) else none
def stZ (h : Hp) (t a : Nat) (i v : Int32) : Option Hp := if inB h t a i = true ∧ (v = 0 ∨ v = 1) then some (tI h a i.toNatClampNeg v) else none
def stL (h : Hp) (t a : Nat) (i : Int32) (v : Int64) : Option Hp := if inB h t a i = true then some (tL h a i.toNatClampNeg v) else none
/-- ei: the class of the array's objects -/
def stR (h : Hp) (t ei a : Nat) (i : Int32) (v : Nat) : Option Hp := if inB h t a i = true ∧ hK h v = some (ei, 0) then some (tR h a i.toNatClampNeg (some v)) else none
def stN (h : Hp) (t a : Nat) (i : Int32) : Option Hp := if inB h t a i = true then some (tR h a i.toNatClampNeg none) else none
def lnA (h : Hp) (t a : Nat) : Option Int32 := match hK h a with
  | some k => if k.1 = t then some (Int32.ofNat k.2) else none
  | none => none
/-- a new array of at most M places -/
def mkA (h : Hp) (t : Nat) (n : Int32) (M : Nat) : Option Hp := if ¬ n < 0 ∧ n.toNatClampNeg ≤ M then some (nA h t n.toNatClampNeg) else none
def cpOk (h : Hp) (t a0 a1 : Nat) (sp dp n : Int32) : Bool := match hK h a0, hK h a1 with
  | some k0, some k1 => decide (k0.1 = t ∧ k1.1 = t ∧ ¬ sp < 0 ∧ ¬ dp < 0 ∧ ¬ n < 0 ∧ sp.toNatClampNeg + n.toNatClampNeg ≤ k0.2 ∧ dp.toNatClampNeg + n.toNatClampNeg ≤ k1.2)
  | _, _ => false
def cpI (h : Hp) (t a0 a1 : Nat) (sp dp n : Int32) : Option Hp := if cpOk h t a0 a1 sp dp n = true then some (wI h a1 (va_cpy (aI h a0) (aI h a1) sp.toNatClampNeg dp.toNatClampNeg n.toNatClampNeg)) else none
def cpL (h : Hp) (t a0 a1 : Nat) (sp dp n : Int32) : Option Hp := if cpOk h t a0 a1 sp dp n = true then some (wL h a1 (va_cpy (aL h a0) (aL h a1) sp.toNatClampNeg dp.toNatClampNeg n.toNatClampNeg)) else none
/-! sequencing -/
def bd {α β : Type} (o : Option α) (k : α → Option β) : Option β := match o with
  | some v => k v
  | none => none
def bd2 {α β : Type} (o : Option (α × Hp)) (k : α → Hp → Option β) : Option β := match o with
  | some v => k v.1 v.2
  | none => none
/-- a reference that may be null -/
def onR {β : Type} (o : Option Nat) (n : Option β) (k : Nat → Option β) : Option β := match o with
  | some v => k v
  | none => n
theorem ob {α β : Type} {o : Option α} {k : α → Option β} {r : β} (h : bd o k = some r) : ∃ v, o = some v ∧ k v = some r := by
  cases o with
  | none => cases h
  | some v => exact ⟨v, rfl, h⟩
theorem ob2 {α β : Type} {o : Option (α × Hp)} {k : α → Hp → Option β} {r : β} (h : bd2 o k = some r) : ∃ v h1, o = some (v, h1) ∧ k v h1 = some r := by
  cases o with
  | none => cases h
  | some v => exact ⟨v.1, v.2, rfl, h⟩
theorem ip {β : Type} {c : Prop} [Decidable c] {A B : Option β} {r : β} (h : (if c then A else B) = some r) (hc : c) : A = some r := by rw [if_pos hc] at h; exact h
theorem ie {β : Type} {c : Prop} [Decidable c] {A B : Option β} {r : β} (h : (if c then A else B) = some r) (hc : ¬ c) : B = some r := by rw [if_neg hc] at h; exact h
theorem on_s {β : Type} {a : Nat} {n : Option β} {k : Nat → Option β} {r : β} (h : onR (some a) n k = some r) : k a = some r := h
theorem on_n {β : Type} {n : Option β} {k : Nat → Option β} {r : β} (h : onR none n k = some r) : n = some r := h
def mx (x y : Int32) : Int32 := if x < y then y else x
def mn (x y : Int32) : Int32 := if y < x then y else x
def nwO (h : Hp) (ci : Nat) : Option Hp := some (nO h ci)
def LF : Nat := 1000000
def bdx {α β : Type} (o : Option ((α ⊕ Nat) × Hp)) (k : α → Hp → Option ((β ⊕ Nat) × Hp)) : Option ((β ⊕ Nat) × Hp) := match o with
  | some (.inl v, h) => k v h
  | some (.inr e, h) => some (.inr e, h)
  | none => none
def bdc {α β : Type} (o : Option ((α ⊕ Nat) × Hp)) (k : α → Hp → Option β) (x : Nat → Hp → Option β) : Option β := match o with
  | some (.inl v, h) => k v h
  | some (.inr e, h) => x e h
  | none => none
/-- the empty picture of a heap of z cells -/
def h00 (z : Nat) : Hp := mkH (fun _ => none) (fun _ _ => 0) (fun _ _ => 0) (fun _ _ => none) (fun _ _ => 0) (fun _ _ => 0) (fun _ _ => none) z
