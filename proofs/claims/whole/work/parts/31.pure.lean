/-! ===== THE STORE by itself: a state like the reference's rows 27 to 37 and ints 40 (REVISION) 41 (time) 42 (COMPACTED) 47 (events) ===== -/
def nE (p : MS) : Nat := (mF p 47).toNatClampNeg
def pEv (p : MS) (k : Nat) (b v : Int32) : MS := uF (uA (uA (uA (uA p 34 (nE p) (mF p 40)) 35 (nE p) (Int32.ofNat k)) 37 (nE p) b) 36 (nE p) v) 47 (Int32.ofNat (nE p + 1))
def pPu (p : MS) (k : Nat) (v l : Int32) : MS := uA (uA (uA (uA p 27 k (mA p 27 k + 1)) 29 k (mF p 40)) 30 k v) 31 k l
def pCa (p : MS) (k : Nat) : MS := if mA p 27 k = 0 then uA p 28 k (mF p 40) else p
def pPut (p : MS) (k : Nat) (v l : Int32) : MS := pEv (pPu (pCa (uF p 40 (mF p 40 + 1)) k) k v l) k 1 v
def pGo (p : MS) (k : Nat) : MS := uA (uA (uA (uA (uA p 27 k 0) 28 k 0) 29 k 0) 30 k 0) 31 k 0
def pGone (p : MS) (k : Nat) : MS := pEv (pGo p k) k 0 0
def pRv (n : Nat) (p : MS) : MS := if n = 0 then uF p 40 (mF p 40 + 1) else p
def pRem (l : Int32) : Nat → Nat → Nat → MS → MS × Nat
  | 0, _, n, p => (p, n)
  | d + 1, k, n, p => if mA p 27 k = 0 ∨ (0 ≤ l ∧ mA p 31 k ≠ l) then pRem l d (k + 1) n p else pRem l d (k + 1) (n + 1) (pGone (pRv n p) k)
def pSays (p : MS) (k : Nat) (w : Int32) : Int32 := if w = 0 then mA p 27 k else if w = 1 then mA p 28 k else if w = 2 then mA p 29 k else mA p 30 k
def pTk : Nat → Nat → MS → MS
  | 0, _, p => p
  | d + 1, l, p => if mA p 32 l = 0 ∨ mF p 41 < mA p 33 l then pTk d (l + 1) p else pTk d (l + 1) (pRem (Int32.ofNat l) 64 0 0 (uA p 32 l 0)).1
def pCmp (v x y : Int32) : Bool := if x = 0 then decide (v = y) else if x = 1 then decide (v < y) else decide (y < v)
def pN (x : Int32) : Nat := x.toNatClampNeg
/-- what a COMMAND does, and its RESULT -/
def pDone (e : Nat → Int32) (p : MS) : MS × Int32 :=
  if e 1 = 1 then (if e 4 ≠ 0 ∧ mA p 32 (pN (e 4)) = 0 then (p, -1) else (pPut p (pN (e 2)) (e 3) (e 4), mF p 40 + 1))
  else if e 1 = 2 then ((pRem (-1) (pN (e 3) + 1 - pN (e 2)) (pN (e 2)) 0 p).1, Int32.ofNat (pRem (-1) (pN (e 3) + 1 - pN (e 2)) (pN (e 2)) 0 p).2)
  else if e 1 = 3 then (if pCmp (pSays p (pN (e 2)) (e 3)) (e 4) (e 5) = true then (pPut p (pN (e 6)) (e 7) 0, 1) else ((pRem (-1) 1 (pN (e 6)) 0 p).1, 0))
  else if e 1 = 4 then (if mA p 32 (pN (e 2)) = 0 then (uA (uA p 32 (pN (e 2)) 1) 33 (pN (e 2)) (mF p 41 + e 3), 1) else (p, 0))
  else if e 1 = 5 then (if mA p 32 (pN (e 2)) = 0 then (p, -1) else ((pRem (e 2) 64 0 0 (uA p 32 (pN (e 2)) 0)).1, Int32.ofNat (pRem (e 2) 64 0 0 (uA p 32 (pN (e 2)) 0)).2))
  else if e 1 = 6 then (if mA p 32 (pN (e 2)) = 0 then (p, 0) else (uA p 33 (pN (e 2)) (mF p 41 + e 3), 1))
  else if e 1 = 7 then (pTk 8 1 (uF p 41 (mF p 41 + 1)), mF p 41 + 1)
  else if e 1 = 8 then (if e 2 ≤ mF p 42 ∨ mF p 40 < e 2 then (p, 0) else (uF p 42 (e 2), 1))
  else (p, 0)
def pZero : MS := (fun _ _ => 0, fun f => if f = 40 then 1 else 0)
/-- THE STORE behind the first i entries of a log; the RESULT of entry i -/
def rp (x : Nat → Nat → Int32) : Nat → MS
  | 0 => pZero
  | i + 1 => (pDone (x (i + 1)) (rp x i)).1
def rr (x : Nat → Nat → Int32) : Nat → Int32
  | 0 => 0
  | i + 1 => (pDone (x (i + 1)) (rp x i)).2
theorem rp_ag {x y : Nat → Nat → Int32} : ∀ (i : Nat), (∀ j, 1 ≤ j → j ≤ i → x j = y j) → rp x i = rp y i
  | 0, _ => rfl
  | i + 1, h => by
    show (pDone (x (i + 1)) (rp x i)).1 = (pDone (y (i + 1)) (rp y i)).1
    rw [rp_ag i (fun j h1 h2 => h j h1 (by omega)), h (i + 1) (by omega) (Nat.le_refl _)]
theorem rr_ag {x y : Nat → Nat → Int32} {i : Nat} (h : ∀ j, 1 ≤ j → j ≤ i → x j = y j) : rr x i = rr y i := by
  cases i with
  | zero => rfl
  | succ i =>
    show (pDone (x (i + 1)) (rp x i)).2 = (pDone (y (i + 1)) (rp y i)).2
    rw [rp_ag i (fun j h1 h2 => h j h1 (by omega)), h (i + 1) (by omega) (Nat.le_refl _)]
/-- how many events aren't above COMPACTED -/
def fE (p : MS) : Nat → Nat → Nat
  | 0, i => i
  | d + 1, i => if mF p 42 < mA p 34 i then i else fE p d (i + 1)
def fV (p : MS) : Nat := fE p (nE p) 0
/-- of the first n events the last one of key k: was it a put, and the value -/
def lst (p : MS) (k : Nat) : Nat → Int32 × Int32
  | 0 => (0, 0)
  | n + 1 => if mA p 35 n = Int32.ofNat k then (mA p 37 n, mA p 36 n) else lst p k n
def coded (p : MS) (i : Nat) : Int64 := if mA p 37 i = 0 then (-1 : Int64) - (((64 : Int64) * (mA p 34 i).toInt64) + (mA p 35 i).toInt64) else (((mA p 34 i).toInt64 <<< ((38 : Int32).toInt64 &&& 63)) + ((mA p 35 i).toInt64 <<< ((32 : Int32).toInt64 &&& 63))) + ((mA p 36 i).toInt64 &&& (4294967295 : Int64))
/-- the class's Store t is p -/
def SC (t : SS) (p : MS) : Prop :=
  nE p ≤ 400 ∧ tF t 0 = mF p 40 ∧ tF t 1 = mF p 42 ∧ tF t 4 = mF p 41 ∧
  (∀ k, k < 64 → tA t 2 k = mA p 27 k ∧ tA t 3 k = mA p 28 k ∧ tA t 4 k = mA p 29 k ∧ tA t 5 k = mA p 30 k ∧ tA t 6 k = mA p 31 k) ∧
  (∃ V, V < 256 ∧ tF t 12 = Int32.ofNat V ∧ ∀ l, l < 8 → (V.testBit l = true ↔ mA p 32 (l + 1) = 1)) ∧
  (∀ l, 1 ≤ l → l ≤ 8 → mA p 32 l = 1 → tA t 8 l = mA p 33 l) ∧
  (tF t 3 = Int32.ofNat (nE p - fV p) ∧ ∀ i, fV p + i < nE p → tK t 1 i = coded p (fV p + i)) ∧
  ∃ U, tG t 10 = Int64.ofNat U ∧ U < 2 ^ 64 ∧ ∀ k, k < 64 → (U.testBit k = true ↔ (lst p k (fV p)).1 = 1) ∧ tA t 7 k = (lst p k (fV p)).2
/-- the reference's rows are p -/
def SM (s p : MS) : Prop :=
  mF s 40 = mF p 40 ∧ mF s 41 = mF p 41 ∧ mF s 42 = mF p 42 ∧ mF s 47 = mF p 47 ∧
  (∀ k, k < 64 → mA s 27 k = mA p 27 k ∧ mA s 28 k = mA p 28 k ∧ mA s 29 k = mA p 29 k ∧ mA s 30 k = mA p 30 k ∧ mA s 31 k = mA p 31 k) ∧
  (∀ l, l < 9 → mA s 32 l = mA p 32 l) ∧ (∀ l, l < 9 → mA p 32 l = 1 → mA s 33 l = mA p 33 l) ∧
  ∀ i, i < nE p → mA s 34 i = mA p 34 i ∧ mA s 35 i = mA p 35 i ∧ mA s 36 i = mA p 36 i ∧ mA s 37 i = mA p 37 i
