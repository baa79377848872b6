/-! The orders of seats: the next one of the class, the t-th of the reference. -/
def factN : Nat → Nat
  | 0 => 1
  | n + 1 => (n + 1) * factN n
def clrb (a c : Nat) : Nat := a - a / 2 ^ c % 2 * 2 ^ c
def lowb (a : Nat) : Nat := if a % 2 = 1 then 0 else if a / 2 % 2 = 1 then 1 else if a / 4 % 2 = 1 then 2 else if a / 8 % 2 = 1 then 3 else if a / 16 % 2 = 1 then 4 else 5
def cl (a : Nat) : Nat → Nat
  | 0 => a
  | k + 1 => cl (a &&& (a - 1)) k
def dg (n t c : Nat) : Nat := t % factN (n - c) / factN (n - (c + 1))
def lft (n t : Nat) : Nat → Nat
  | 0 => 2 ^ n - 1
  | c + 1 => clrb (lft n t c) (lowb (cl (lft n t c) (dg n t c)))
def unr (n t c : Nat) : Nat := lowb (cl (lft n t c) (dg n t c))
def swN (p : Nat → Nat) (a b : Nat) : Nat → Nat := updN (updN p a (p b)) b (p a)
def tl (p : Nat → Nat) : Nat → Nat
  | 0 => 0
  | m + 1 => if p m ≤ p (m + 1) then m + 1 else tl p m
def wl (p : Nat → Nat) (t : Nat) : Nat → Nat
  | 0 => 0
  | w + 1 => if w + 1 ≤ t then w + 1 else if p t ≤ p (w + 1) then w + 1 else wl p t w
def rv : Nat → (Nat → Nat) → Nat → Nat → Nat → Nat
  | 0, p, _, _ => p
  | f + 1, p, lo, hi => if hi ≤ lo then p else rv f (swN p lo hi) (lo + 1) (hi - 1)
def okA (n t : Nat) : Bool := match tl (unr n t) (n - 1) with
  | 0 => decide (t + 1 = factN n)
  | s + 1 => decide (t + 1 < factN n) && (List.range n).all (fun i => Nat.beq (rv n (swN (unr n t) s (wl (unr n t) s (n - 1))) (s + 1) (n - 1) i) (unr n (t + 1) i))
def okO (n t : Nat) : Bool := (List.range n).all (fun c => decide (lft n t c < 64 ∧ cl (lft n t c) (dg n t c) < 64 ∧ cl (lft n t c) (dg n t c) ≠ 0 ∧ dg n t c < 6 ∧ unr n t c < n))
theorem okO_all : ∀ n, n < 7 → ∀ t, t < factN n → okO n t = true := by decide +kernel
theorem okA_all : ∀ n, n < 7 → ∀ t, t < factN n → okA n t = true := by decide +kernel
