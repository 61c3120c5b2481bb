/-! ORDERS, PURE -/
def gt (L : List Nat) (i : Nat) : Nat := L.getD i 0
def scnI (L : List Nat) : Nat → Option Nat
  | 0 => none
  | i + 1 => if gt L (i + 1) < gt L i then scnI L i else some i
def scnK (L : List Nat) (t : Nat) : Nat → Nat
  | 0 => 0
  | k + 1 => if t < k + 1 ∧ gt L (k + 1) < gt L t then scnK L t k else k + 1
def swp (L : List Nat) (a b : Nat) : List Nat := (L.set a (gt L b)).set b (gt L a)
def rvs : Nat → List Nat → Nat → Nat → List Nat
  | 0, L, _, _ => L
  | j + 1, L, a, b => if a < b then rvs j (swp L a b) (a + 1) (b - 1) else L
def nx (L : List Nat) : Option (List Nat) := match scnI L (L.length - 1) with
  | none => none
  | some i => some (rvs 8 (swp L i (scnK L i (L.length - 1))) (i + 1) (L.length - 1))
/-- do the orders from here on end in so many steps, and does one of them begin with f -/
def ends : Nat → List Nat → Bool
  | 0, _ => false
  | j + 1, L => match nx L with
    | none => true
    | some M => ends j M
def hits (f : Nat) : Nat → List Nat → Bool
  | 0, _ => false
  | j + 1, L => gt L 0 == f || match nx L with
    | none => false
    | some M => hits f j M
theorem ends_all : (List.range 8).all (fun n => n == 0 || ends 5040 (List.range n)) = true := by decide +kernel
theorem hits_all : (List.range 8).all (fun n => (List.range n).all fun f => hits f 5040 (List.range n)) = true := by decide +kernel
